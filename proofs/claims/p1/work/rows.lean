section
-- ===== PART A: goes FIRST, ahead of the names: the tables' words, and 'selects' of the private methods out of them =====
/-- a private method of a class that the tables say can be made, by its rows of tables_1 -/
def lw_okq (q : MethodName × Nat) : Prop := (q.1.cls ≠ "java/lang/invoke/MethodHandle" ∧ q.1.cls ≠ "java/lang/invoke/VarHandle") ∧ Cond.instantiable q.1.cls q.2 ∈ tables_1 ∧ Cond.privateMethod q.1 ∈ tables_1 ∧ Cond.instanceMethod q.1 ∈ tables_1
theorem lw_p0 : lw_okq (⟨"TableOrders$Factor", "power", "(I)I"⟩, 6) := ⟨⟨by decide +kernel, by decide +kernel⟩, List.mem_of_getElem? (i := 271) (by decide +kernel), List.mem_of_getElem? (i := 314) (by decide +kernel), List.mem_of_getElem? (i := 315) (by decide +kernel)⟩
theorem lw_p1 : lw_okq (⟨"TableOrders$Search", "prepareRows", "()V"⟩, 5) := ⟨⟨by decide +kernel, by decide +kernel⟩, List.mem_of_getElem? (i := 83) (by decide +kernel), List.mem_of_getElem? (i := 370) (by decide +kernel), List.mem_of_getElem? (i := 371) (by decide +kernel)⟩
theorem lw_p2 : lw_okq (⟨"TableOrders$Search", "leastWidth", "()I"⟩, 5) := ⟨⟨by decide +kernel, by decide +kernel⟩, List.mem_of_getElem? (i := 83) (by decide +kernel), List.mem_of_getElem? (i := 379) (by decide +kernel), List.mem_of_getElem? (i := 380) (by decide +kernel)⟩
theorem lw_p3 : lw_okq (⟨"TableOrders$Search", "countLeastCells", "(I)V"⟩, 5) := ⟨⟨by decide +kernel, by decide +kernel⟩, List.mem_of_getElem? (i := 83) (by decide +kernel), List.mem_of_getElem? (i := 399) (by decide +kernel), List.mem_of_getElem? (i := 400) (by decide +kernel)⟩
theorem lw_p4 : lw_okq (⟨"TableOrders$Search", "cellsFrom", "(III)I"⟩, 5) := ⟨⟨by decide +kernel, by decide +kernel⟩, List.mem_of_getElem? (i := 83) (by decide +kernel), List.mem_of_getElem? (i := 404) (by decide +kernel), List.mem_of_getElem? (i := 405) (by decide +kernel)⟩
theorem lw_p5 : lw_okq (⟨"TableOrders$Search", "follow", "(I)V"⟩, 5) := ⟨⟨by decide +kernel, by decide +kernel⟩, List.mem_of_getElem? (i := 83) (by decide +kernel), List.mem_of_getElem? (i := 408) (by decide +kernel), List.mem_of_getElem? (i := 409) (by decide +kernel)⟩
theorem lw_p6 : lw_okq (⟨"TableOrders$Sequence", "chosenAt", "(II)I"⟩, 11) := ⟨⟨by decide +kernel, by decide +kernel⟩, List.mem_of_getElem? (i := 77) (by decide +kernel), List.mem_of_getElem? (i := 412) (by decide +kernel), List.mem_of_getElem? (i := 413) (by decide +kernel)⟩
theorem lw_p7 : lw_okq (⟨"TableOrders$Sequence", "cheapest", "(I)I"⟩, 11) := ⟨⟨by decide +kernel, by decide +kernel⟩, List.mem_of_getElem? (i := 77) (by decide +kernel), List.mem_of_getElem? (i := 416) (by decide +kernel), List.mem_of_getElem? (i := 417) (by decide +kernel)⟩
theorem lw_p8 : lw_okq (⟨"TableOrders$Sequence", "costOf", "(II)I"⟩, 11) := ⟨⟨by decide +kernel, by decide +kernel⟩, List.mem_of_getElem? (i := 77) (by decide +kernel), List.mem_of_getElem? (i := 421) (by decide +kernel), List.mem_of_getElem? (i := 422) (by decide +kernel)⟩
theorem lw_p9 : lw_okq (⟨"TableOrders$Sequence", "takeAllOut", "()V"⟩, 11) := ⟨⟨by decide +kernel, by decide +kernel⟩, List.mem_of_getElem? (i := 77) (by decide +kernel), List.mem_of_getElem? (i := 432) (by decide +kernel), List.mem_of_getElem? (i := 433) (by decide +kernel)⟩
theorem lw_p10 : lw_okq (⟨"TableOrders", "toldOfOrder", "(I)I"⟩, 5) := ⟨⟨by decide +kernel, by decide +kernel⟩, List.mem_of_getElem? (i := 13) (by decide +kernel), List.mem_of_getElem? (i := 458) (by decide +kernel), List.mem_of_getElem? (i := 459) (by decide +kernel)⟩
theorem lw_p11 : lw_okq (⟨"TableOrders", "lacksMemory", "()Z"⟩, 5) := ⟨⟨by decide +kernel, by decide +kernel⟩, List.mem_of_getElem? (i := 13) (by decide +kernel), List.mem_of_getElem? (i := 466) (by decide +kernel), List.mem_of_getElem? (i := 467) (by decide +kernel)⟩
theorem lw_p12 : lw_okq (⟨"TableOrders$Weights", "choose", "(IIJ)V"⟩, 14) := ⟨⟨by decide +kernel, by decide +kernel⟩, List.mem_of_getElem? (i := 151) (by decide +kernel), List.mem_of_getElem? (i := 482) (by decide +kernel), List.mem_of_getElem? (i := 483) (by decide +kernel)⟩
theorem lw_p13 : lw_okq (⟨"TableOrders$Weights", "keep", "(IJ)V"⟩, 14) := ⟨⟨by decide +kernel, by decide +kernel⟩, List.mem_of_getElem? (i := 151) (by decide +kernel), List.mem_of_getElem? (i := 486) (by decide +kernel), List.mem_of_getElem? (i := 487) (by decide +kernel)⟩
theorem lw_p14 : lw_okq (⟨"TableOrders$Weights", "insertRank", "(IJ)V"⟩, 14) := ⟨⟨by decide +kernel, by decide +kernel⟩, List.mem_of_getElem? (i := 151) (by decide +kernel), List.mem_of_getElem? (i := 490) (by decide +kernel), List.mem_of_getElem? (i := 491) (by decide +kernel)⟩
theorem lw_p15 : lw_okq (⟨"TableOrders$Weights", "gather", "(II)V"⟩, 14) := ⟨⟨by decide +kernel, by decide +kernel⟩, List.mem_of_getElem? (i := 151) (by decide +kernel), List.mem_of_getElem? (i := 524) (by decide +kernel), List.mem_of_getElem? (i := 525) (by decide +kernel)⟩
def lw_privs_1 : List (MethodName × Nat) := [(⟨"TableOrders$Factor", "power", "(I)I"⟩, 6), (⟨"TableOrders$Search", "prepareRows", "()V"⟩, 5), (⟨"TableOrders$Search", "leastWidth", "()I"⟩, 5), (⟨"TableOrders$Search", "countLeastCells", "(I)V"⟩, 5), (⟨"TableOrders$Search", "cellsFrom", "(III)I"⟩, 5), (⟨"TableOrders$Search", "follow", "(I)V"⟩, 5), (⟨"TableOrders$Sequence", "chosenAt", "(II)I"⟩, 11), (⟨"TableOrders$Sequence", "cheapest", "(I)I"⟩, 11), (⟨"TableOrders$Sequence", "costOf", "(II)I"⟩, 11), (⟨"TableOrders$Sequence", "takeAllOut", "()V"⟩, 11), (⟨"TableOrders", "toldOfOrder", "(I)I"⟩, 5), (⟨"TableOrders", "lacksMemory", "()Z"⟩, 5), (⟨"TableOrders$Weights", "choose", "(IIJ)V"⟩, 14), (⟨"TableOrders$Weights", "keep", "(IJ)V"⟩, 14), (⟨"TableOrders$Weights", "insertRank", "(IJ)V"⟩, 14), (⟨"TableOrders$Weights", "gather", "(II)V"⟩, 14)]
theorem lw_r1 : ∀ q ∈ lw_privs_1, lw_okq q := List.forall_mem_cons.mpr ⟨lw_p0, List.forall_mem_cons.mpr ⟨lw_p1, List.forall_mem_cons.mpr ⟨lw_p2, List.forall_mem_cons.mpr ⟨lw_p3, List.forall_mem_cons.mpr ⟨lw_p4, List.forall_mem_cons.mpr ⟨lw_p5, List.forall_mem_cons.mpr ⟨lw_p6, List.forall_mem_cons.mpr ⟨lw_p7, List.forall_mem_cons.mpr ⟨lw_p8, List.forall_mem_cons.mpr ⟨lw_p9, List.forall_mem_cons.mpr ⟨lw_p10, List.forall_mem_cons.mpr ⟨lw_p11, List.forall_mem_cons.mpr ⟨lw_p12, List.forall_mem_cons.mpr ⟨lw_p13, List.forall_mem_cons.mpr ⟨lw_p14, List.forall_mem_cons.mpr ⟨lw_p15, fun _ h => absurd h List.not_mem_nil⟩⟩⟩⟩⟩⟩⟩⟩⟩⟩⟩⟩⟩⟩⟩⟩
theorem lw_p16 : lw_okq (⟨"TableOrdersModel", "isSet", "(I)Z"⟩, 23) := ⟨⟨by decide +kernel, by decide +kernel⟩, List.mem_of_getElem? (i := 588) (by decide +kernel), List.mem_of_getElem? (i := 678) (by decide +kernel), List.mem_of_getElem? (i := 679) (by decide +kernel)⟩
theorem lw_p17 : lw_okq (⟨"TableOrdersModel", "allCopies", "()I"⟩, 23) := ⟨⟨by decide +kernel, by decide +kernel⟩, List.mem_of_getElem? (i := 588) (by decide +kernel), List.mem_of_getElem? (i := 685) (by decide +kernel), List.mem_of_getElem? (i := 686) (by decide +kernel)⟩
theorem lw_p18 : lw_okq (⟨"TableOrdersModel", "isFactor", "(I)Z"⟩, 23) := ⟨⟨by decide +kernel, by decide +kernel⟩, List.mem_of_getElem? (i := 588) (by decide +kernel), List.mem_of_getElem? (i := 693) (by decide +kernel), List.mem_of_getElem? (i := 694) (by decide +kernel)⟩
theorem lw_p19 : lw_okq (⟨"TableOrdersModel", "cells", "(I)I"⟩, 23) := ⟨⟨by decide +kernel, by decide +kernel⟩, List.mem_of_getElem? (i := 588) (by decide +kernel), List.mem_of_getElem? (i := 697) (by decide +kernel), List.mem_of_getElem? (i := 698) (by decide +kernel)⟩
theorem lw_p20 : lw_okq (⟨"TableOrdersModel", "isName", "(I)Z"⟩, 23) := ⟨⟨by decide +kernel, by decide +kernel⟩, List.mem_of_getElem? (i := 588) (by decide +kernel), List.mem_of_getElem? (i := 711) (by decide +kernel), List.mem_of_getElem? (i := 712) (by decide +kernel)⟩
theorem lw_p21 : lw_okq (⟨"TableOrdersModel", "work", "(I)V"⟩, 23) := ⟨⟨by decide +kernel, by decide +kernel⟩, List.mem_of_getElem? (i := 588) (by decide +kernel), List.mem_of_getElem? (i := 731) (by decide +kernel), List.mem_of_getElem? (i := 732) (by decide +kernel)⟩
theorem lw_p22 : lw_okq (⟨"TableOrdersModel", "draw", "()V"⟩, 23) := ⟨⟨by decide +kernel, by decide +kernel⟩, List.mem_of_getElem? (i := 588) (by decide +kernel), List.mem_of_getElem? (i := 735) (by decide +kernel), List.mem_of_getElem? (i := 736) (by decide +kernel)⟩
theorem lw_p23 : lw_okq (⟨"TableOrdersModel", "weighAll", "()V"⟩, 23) := ⟨⟨by decide +kernel, by decide +kernel⟩, List.mem_of_getElem? (i := 588) (by decide +kernel), List.mem_of_getElem? (i := 739) (by decide +kernel), List.mem_of_getElem? (i := 740) (by decide +kernel)⟩
theorem lw_p24 : lw_okq (⟨"TableOrdersModel", "bagOf", "(II)I"⟩, 23) := ⟨⟨by decide +kernel, by decide +kernel⟩, List.mem_of_getElem? (i := 588) (by decide +kernel), List.mem_of_getElem? (i := 743) (by decide +kernel), List.mem_of_getElem? (i := 744) (by decide +kernel)⟩
theorem lw_p25 : lw_okq (⟨"TableOrdersModel", "price", "(II)J"⟩, 23) := ⟨⟨by decide +kernel, by decide +kernel⟩, List.mem_of_getElem? (i := 588) (by decide +kernel), List.mem_of_getElem? (i := 747) (by decide +kernel), List.mem_of_getElem? (i := 748) (by decide +kernel)⟩
theorem lw_p26 : lw_okq (⟨"TableOrdersModel", "pick", "(II)I"⟩, 23) := ⟨⟨by decide +kernel, by decide +kernel⟩, List.mem_of_getElem? (i := 588) (by decide +kernel), List.mem_of_getElem? (i := 751) (by decide +kernel), List.mem_of_getElem? (i := 752) (by decide +kernel)⟩
theorem lw_p27 : lw_okq (⟨"TableOrdersModel", "fill", "(I)I"⟩, 23) := ⟨⟨by decide +kernel, by decide +kernel⟩, List.mem_of_getElem? (i := 588) (by decide +kernel), List.mem_of_getElem? (i := 755) (by decide +kernel), List.mem_of_getElem? (i := 756) (by decide +kernel)⟩
theorem lw_p28 : lw_okq (⟨"TableOrdersModel", "takeOut", "(II)V"⟩, 23) := ⟨⟨by decide +kernel, by decide +kernel⟩, List.mem_of_getElem? (i := 588) (by decide +kernel), List.mem_of_getElem? (i := 759) (by decide +kernel), List.mem_of_getElem? (i := 760) (by decide +kernel)⟩
theorem lw_p29 : lw_okq (⟨"TableOrdersModel", "width", "()I"⟩, 23) := ⟨⟨by decide +kernel, by decide +kernel⟩, List.mem_of_getElem? (i := 588) (by decide +kernel), List.mem_of_getElem? (i := 763) (by decide +kernel), List.mem_of_getElem? (i := 764) (by decide +kernel)⟩
theorem lw_p30 : lw_okq (⟨"TableOrdersModel", "refresh", "()V"⟩, 23) := ⟨⟨by decide +kernel, by decide +kernel⟩, List.mem_of_getElem? (i := 588) (by decide +kernel), List.mem_of_getElem? (i := 771) (by decide +kernel), List.mem_of_getElem? (i := 772) (by decide +kernel)⟩
theorem lw_p31 : lw_okq (⟨"TableOrdersModel", "pairs", "()I"⟩, 23) := ⟨⟨by decide +kernel, by decide +kernel⟩, List.mem_of_getElem? (i := 588) (by decide +kernel), List.mem_of_getElem? (i := 780) (by decide +kernel), List.mem_of_getElem? (i := 781) (by decide +kernel)⟩
def lw_privs_2 : List (MethodName × Nat) := [(⟨"TableOrdersModel", "isSet", "(I)Z"⟩, 23), (⟨"TableOrdersModel", "allCopies", "()I"⟩, 23), (⟨"TableOrdersModel", "isFactor", "(I)Z"⟩, 23), (⟨"TableOrdersModel", "cells", "(I)I"⟩, 23), (⟨"TableOrdersModel", "isName", "(I)Z"⟩, 23), (⟨"TableOrdersModel", "work", "(I)V"⟩, 23), (⟨"TableOrdersModel", "draw", "()V"⟩, 23), (⟨"TableOrdersModel", "weighAll", "()V"⟩, 23), (⟨"TableOrdersModel", "bagOf", "(II)I"⟩, 23), (⟨"TableOrdersModel", "price", "(II)J"⟩, 23), (⟨"TableOrdersModel", "pick", "(II)I"⟩, 23), (⟨"TableOrdersModel", "fill", "(I)I"⟩, 23), (⟨"TableOrdersModel", "takeOut", "(II)V"⟩, 23), (⟨"TableOrdersModel", "width", "()I"⟩, 23), (⟨"TableOrdersModel", "refresh", "()V"⟩, 23), (⟨"TableOrdersModel", "pairs", "()I"⟩, 23)]
theorem lw_r2 : ∀ q ∈ lw_privs_2, lw_okq q := List.forall_mem_cons.mpr ⟨lw_p16, List.forall_mem_cons.mpr ⟨lw_p17, List.forall_mem_cons.mpr ⟨lw_p18, List.forall_mem_cons.mpr ⟨lw_p19, List.forall_mem_cons.mpr ⟨lw_p20, List.forall_mem_cons.mpr ⟨lw_p21, List.forall_mem_cons.mpr ⟨lw_p22, List.forall_mem_cons.mpr ⟨lw_p23, List.forall_mem_cons.mpr ⟨lw_p24, List.forall_mem_cons.mpr ⟨lw_p25, List.forall_mem_cons.mpr ⟨lw_p26, List.forall_mem_cons.mpr ⟨lw_p27, List.forall_mem_cons.mpr ⟨lw_p28, List.forall_mem_cons.mpr ⟨lw_p29, List.forall_mem_cons.mpr ⟨lw_p30, List.forall_mem_cons.mpr ⟨lw_p31, fun _ h => absurd h List.not_mem_nil⟩⟩⟩⟩⟩⟩⟩⟩⟩⟩⟩⟩⟩⟩⟩⟩
theorem lw_p32 : lw_okq (⟨"TableOrdersModel", "mostCells", "()I"⟩, 23) := ⟨⟨by decide +kernel, by decide +kernel⟩, List.mem_of_getElem? (i := 588) (by decide +kernel), List.mem_of_getElem? (i := 784) (by decide +kernel), List.mem_of_getElem? (i := 785) (by decide +kernel)⟩
theorem lw_p33 : lw_okq (⟨"TableOrdersModel", "isTooMuch", "()Z"⟩, 23) := ⟨⟨by decide +kernel, by decide +kernel⟩, List.mem_of_getElem? (i := 588) (by decide +kernel), List.mem_of_getElem? (i := 792) (by decide +kernel), List.mem_of_getElem? (i := 793) (by decide +kernel)⟩
theorem lw_p34 : lw_okq (⟨"TableOrdersModel", "sum", "()J"⟩, 23) := ⟨⟨by decide +kernel, by decide +kernel⟩, List.mem_of_getElem? (i := 588) (by decide +kernel), List.mem_of_getElem? (i := 797) (by decide +kernel), List.mem_of_getElem? (i := 798) (by decide +kernel)⟩
theorem lw_p35 : lw_okq (⟨"TableOrdersModel", "weigh", "(I)J"⟩, 23) := ⟨⟨by decide +kernel, by decide +kernel⟩, List.mem_of_getElem? (i := 588) (by decide +kernel), List.mem_of_getElem? (i := 801) (by decide +kernel), List.mem_of_getElem? (i := 802) (by decide +kernel)⟩
theorem lw_p36 : lw_okq (⟨"TableOrdersModel", "lay", "(I)V"⟩, 23) := ⟨⟨by decide +kernel, by decide +kernel⟩, List.mem_of_getElem? (i := 588) (by decide +kernel), List.mem_of_getElem? (i := 805) (by decide +kernel), List.mem_of_getElem? (i := 806) (by decide +kernel)⟩
theorem lw_p37 : lw_okq (⟨"TableOrdersModel", "numberOf", "(I)I"⟩, 23) := ⟨⟨by decide +kernel, by decide +kernel⟩, List.mem_of_getElem? (i := 588) (by decide +kernel), List.mem_of_getElem? (i := 809) (by decide +kernel), List.mem_of_getElem? (i := 810) (by decide +kernel)⟩
theorem lw_p38 : lw_okq (⟨"TableOrdersModel", "rankAll", "()V"⟩, 23) := ⟨⟨by decide +kernel, by decide +kernel⟩, List.mem_of_getElem? (i := 588) (by decide +kernel), List.mem_of_getElem? (i := 826) (by decide +kernel), List.mem_of_getElem? (i := 827) (by decide +kernel)⟩
def lw_privs_3 : List (MethodName × Nat) := [(⟨"TableOrdersModel", "mostCells", "()I"⟩, 23), (⟨"TableOrdersModel", "isTooMuch", "()Z"⟩, 23), (⟨"TableOrdersModel", "sum", "()J"⟩, 23), (⟨"TableOrdersModel", "weigh", "(I)J"⟩, 23), (⟨"TableOrdersModel", "lay", "(I)V"⟩, 23), (⟨"TableOrdersModel", "numberOf", "(I)I"⟩, 23), (⟨"TableOrdersModel", "rankAll", "()V"⟩, 23)]
theorem lw_r3 : ∀ q ∈ lw_privs_3, lw_okq q := List.forall_mem_cons.mpr ⟨lw_p32, List.forall_mem_cons.mpr ⟨lw_p33, List.forall_mem_cons.mpr ⟨lw_p34, List.forall_mem_cons.mpr ⟨lw_p35, List.forall_mem_cons.mpr ⟨lw_p36, List.forall_mem_cons.mpr ⟨lw_p37, List.forall_mem_cons.mpr ⟨lw_p38, fun _ h => absurd h List.not_mem_nil⟩⟩⟩⟩⟩⟩⟩
def lw_privs : List (MethodName × Nat) := lw_privs_1 ++ (lw_privs_2 ++ (lw_privs_3))
def lw_tbl : List Cond := k2_sels lw_privs ++ tables_1
theorem lw_privs_ok : ∀ q ∈ lw_privs, lw_okq q := by
  show ∀ q ∈ lw_privs_1 ++ (lw_privs_2 ++ (lw_privs_3)), lw_okq q
  exact List.forall_mem_append.mpr ⟨lw_r1, List.forall_mem_append.mpr ⟨lw_r2, lw_r3⟩⟩
end
section
def RFa : String := "TableOrders$Factor"
def RFs : String := "TableOrders$Factors"
def RGr : String := "TableOrders$Graph"
def RSe : String := "TableOrders$Search"
def RSq : String := "TableOrders$Sequence"
def RWe : String := "TableOrders$Weights"
def RTo : String := "TableOrders"
def RMo : String := "TableOrdersModel"
def RJi : String := "java/lang/Integer"
def RJm : String := "java/lang/Math"
def RJa : String := "java/util/Arrays"
def RLa : String := "TableOrdersLaw"
def TFa : u_T := fun k => match k with
  | 0 => ("TableOrders$Factor", "names", "[I", true)
  | 1 => ("TableOrders$Factor", "steps", "[I", true)
  | 2 => ("TableOrders$Factor", "entries", "[I", true)
  | 3 => ("TableOrders$Factor", "powers", "[I", true)
  | 4 => ("TableOrders$Factor", "next", "LTableOrders$Factor;", true)
  | _ => ("TableOrders$Factor", "times", "I", false)
def tyFa : Nat → FieldType := fun k => match k with
  | 0 => (.array .int)
  | 1 => (.array .int)
  | 2 => (.array .int)
  | 3 => (.array .int)
  | 4 => (.object "TableOrders$Factor")
  | _ => .int
theorem nmFa : ∀ a, a < 6 → ∀ b, b < 6 → a ≠ b → (TFa a).2.1 ≠ (TFa b).2.1 := by decide +kernel
theorem tyFa_ok : ∀ k, k < 6 → parseFieldDescriptor (TFa k).2.2.1 = some (tyFa k) := by decide +kernel
theorem inFa : ∀ w ∈ u_ws RFa TFa 6, w ∈ lw_tbl := by decide +kernel
def TFs : u_T := fun k => match k with
  | 0 => ("TableOrders$Factors", "graph", "LTableOrders$Graph;", true)
  | 1 => ("TableOrders$Factors", "byNumber", "[LTableOrders$Factor;", true)
  | 2 => ("TableOrders$Factors", "byLastName", "[LTableOrders$Factor;", true)
  | 3 => ("TableOrders$Factors", "count", "I", false)
  | _ => ("TableOrders$Factors", "copiesInAll", "I", false)
def tyFs : Nat → FieldType := fun k => match k with
  | 0 => (.object "TableOrders$Graph")
  | 1 => (.array (.object "TableOrders$Factor"))
  | 2 => (.array (.object "TableOrders$Factor"))
  | 3 => .int
  | _ => .int
theorem nmFs : ∀ a, a < 5 → ∀ b, b < 5 → a ≠ b → (TFs a).2.1 ≠ (TFs b).2.1 := by decide +kernel
theorem tyFs_ok : ∀ k, k < 5 → parseFieldDescriptor (TFs k).2.2.1 = some (tyFs k) := by decide +kernel
theorem inFs : ∀ w ∈ u_ws RFs TFs 5, w ∈ lw_tbl := by decide +kernel
def TGr : u_T := fun k => match k with
  | 0 => ("TableOrders$Graph", "values", "[I", true)
  | 1 => ("TableOrders$Graph", "neighbours", "[I", true)
  | 2 => ("TableOrders$Graph", "names", "I", false)
  | _ => ("TableOrders$Graph", "states", "I", false)
def tyGr : Nat → FieldType := fun k => match k with
  | 0 => (.array .int)
  | 1 => (.array .int)
  | 2 => .int
  | _ => .int
theorem nmGr : ∀ a, a < 4 → ∀ b, b < 4 → a ≠ b → (TGr a).2.1 ≠ (TGr b).2.1 := by decide +kernel
theorem tyGr_ok : ∀ k, k < 4 → parseFieldDescriptor (TGr k).2.2.1 = some (tyGr k) := by decide +kernel
theorem inGr : ∀ w ∈ u_ws RGr TGr 4, w ∈ lw_tbl := by decide +kernel
def TSe : u_T := fun k => match k with
  | 0 => ("TableOrders$Search", "graph", "LTableOrders$Graph;", true)
  | 1 => ("TableOrders$Search", "found", "[I", true)
  | 2 => ("TableOrders$Search", "cells", "[I", false)
  | 3 => ("TableOrders$Search", "least", "[I", false)
  | _ => ("TableOrders$Search", "known", "Z", false)
def tySe : Nat → FieldType := fun k => match k with
  | 0 => (.object "TableOrders$Graph")
  | 1 => (.array .int)
  | 2 => (.array .int)
  | 3 => (.array .int)
  | _ => .boolean
theorem nmSe : ∀ a, a < 5 → ∀ b, b < 5 → a ≠ b → (TSe a).2.1 ≠ (TSe b).2.1 := by decide +kernel
theorem tySe_ok : ∀ k, k < 5 → parseFieldDescriptor (TSe k).2.2.1 = some (tySe k) := by decide +kernel
theorem inSe : ∀ w ∈ u_ws RSe TSe 5, w ∈ lw_tbl := by decide +kernel
def TSq : u_T := fun k => match k with
  | 0 => ("TableOrders$Sequence", "graph", "LTableOrders$Graph;", true)
  | 1 => ("TableOrders$Sequence", "search", "LTableOrders$Search;", true)
  | 2 => ("TableOrders$Sequence", "places", "[I", true)
  | 3 => ("TableOrders$Sequence", "nameAt", "[I", true)
  | 4 => ("TableOrders$Sequence", "bagAt", "[I", true)
  | 5 => ("TableOrders$Sequence", "kind", "I", false)
  | 6 => ("TableOrders$Sequence", "width", "I", false)
  | 7 => ("TableOrders$Sequence", "fillInAll", "I", false)
  | 8 => ("TableOrders$Sequence", "cellsInAll", "I", false)
  | 9 => ("TableOrders$Sequence", "mostCells", "I", false)
  | _ => ("TableOrders$Sequence", "known", "Z", false)
def tySq : Nat → FieldType := fun k => match k with
  | 0 => (.object "TableOrders$Graph")
  | 1 => (.object "TableOrders$Search")
  | 2 => (.array .int)
  | 3 => (.array .int)
  | 4 => (.array .int)
  | 5 => .int
  | 6 => .int
  | 7 => .int
  | 8 => .int
  | 9 => .int
  | _ => .boolean
theorem nmSq : ∀ a, a < 11 → ∀ b, b < 11 → a ≠ b → (TSq a).2.1 ≠ (TSq b).2.1 := by decide +kernel
theorem tySq_ok : ∀ k, k < 11 → parseFieldDescriptor (TSq k).2.2.1 = some (tySq k) := by decide +kernel
theorem inSq : ∀ w ∈ u_ws RSq TSq 11, w ∈ lw_tbl := by decide +kernel
def TWe : u_T := fun k => match k with
  | 0 => ("TableOrders$Weights", "graph", "LTableOrders$Graph;", true)
  | 1 => ("TableOrders$Weights", "factors", "LTableOrders$Factors;", true)
  | 2 => ("TableOrders$Weights", "bound", "[I", true)
  | 3 => ("TableOrders$Weights", "chosen", "[I", true)
  | 4 => ("TableOrders$Weights", "products", "[J", true)
  | 5 => ("TableOrders$Weights", "byState", "[J", false)
  | 6 => ("TableOrders$Weights", "rankWeights", "[J", true)
  | 7 => ("TableOrders$Weights", "rankStates", "[I", true)
  | 8 => ("TableOrders$Weights", "ranked", "I", false)
  | 9 => ("TableOrders$Weights", "supported", "I", false)
  | 10 => ("TableOrders$Weights", "sum", "J", false)
  | 11 => ("TableOrders$Weights", "gatheredSum", "J", false)
  | 12 => ("TableOrders$Weights", "gatheredStates", "I", false)
  | _ => ("TableOrders$Weights", "known", "Z", false)
def tyWe : Nat → FieldType := fun k => match k with
  | 0 => (.object "TableOrders$Graph")
  | 1 => (.object "TableOrders$Factors")
  | 2 => (.array .int)
  | 3 => (.array .int)
  | 4 => (.array .long)
  | 5 => (.array .long)
  | 6 => (.array .long)
  | 7 => (.array .int)
  | 8 => .int
  | 9 => .int
  | 10 => .long
  | 11 => .long
  | 12 => .int
  | _ => .boolean
theorem nmWe : ∀ a, a < 14 → ∀ b, b < 14 → a ≠ b → (TWe a).2.1 ≠ (TWe b).2.1 := by decide +kernel
theorem tyWe_ok : ∀ k, k < 14 → parseFieldDescriptor (TWe k).2.2.1 = some (tyWe k) := by decide +kernel
theorem inWe : ∀ w ∈ u_ws RWe TWe 14, w ∈ lw_tbl := by decide +kernel
def TTo : u_T := fun k => match k with
  | 0 => ("TableOrders", "graph", "LTableOrders$Graph;", true)
  | 1 => ("TableOrders", "factors", "LTableOrders$Factors;", true)
  | 2 => ("TableOrders", "sequence", "LTableOrders$Sequence;", true)
  | 3 => ("TableOrders", "weights", "LTableOrders$Weights;", true)
  | _ => ("TableOrders", "room", "I", false)
def tyTo : Nat → FieldType := fun k => match k with
  | 0 => (.object "TableOrders$Graph")
  | 1 => (.object "TableOrders$Factors")
  | 2 => (.object "TableOrders$Sequence")
  | 3 => (.object "TableOrders$Weights")
  | _ => .int
theorem nmTo : ∀ a, a < 5 → ∀ b, b < 5 → a ≠ b → (TTo a).2.1 ≠ (TTo b).2.1 := by decide +kernel
theorem tyTo_ok : ∀ k, k < 5 → parseFieldDescriptor (TTo k).2.2.1 = some (tyTo k) := by decide +kernel
theorem inTo : ∀ w ∈ u_ws RTo TTo 5, w ∈ lw_tbl := by decide +kernel
def TMo : u_T := fun k => match k with
  | 0 => ("TableOrdersModel", "names", "I", false)
  | 1 => ("TableOrdersModel", "values", "[I", true)
  | 2 => ("TableOrdersModel", "bound", "[I", true)
  | 3 => ("TableOrdersModel", "places", "[I", true)
  | 4 => ("TableOrdersModel", "states", "I", false)
  | 5 => ("TableOrdersModel", "factors", "I", false)
  | 6 => ("TableOrdersModel", "sets", "[I", true)
  | 7 => ("TableOrdersModel", "copies", "[I", true)
  | 8 => ("TableOrdersModel", "entries", "[I", true)
  | 9 => ("TableOrdersModel", "memory", "I", false)
  | 10 => ("TableOrdersModel", "kind", "I", false)
  | 11 => ("TableOrdersModel", "stale", "Z", false)
  | 12 => ("TableOrdersModel", "order", "[I", true)
  | 13 => ("TableOrdersModel", "bags", "[I", true)
  | 14 => ("TableOrdersModel", "fills", "I", false)
  | 15 => ("TableOrdersModel", "links", "[I", true)
  | 16 => ("TableOrdersModel", "least", "[I", true)
  | 17 => ("TableOrdersModel", "cheapest", "[J", true)
  | 18 => ("TableOrdersModel", "state", "[I", true)
  | 19 => ("TableOrdersModel", "topWeight", "[J", true)
  | 20 => ("TableOrdersModel", "topState", "[I", true)
  | 21 => ("TableOrdersModel", "tops", "I", false)
  | _ => ("TableOrdersModel", "thrown", "I", false)
def tyMo : Nat → FieldType := fun k => match k with
  | 0 => .int
  | 1 => (.array .int)
  | 2 => (.array .int)
  | 3 => (.array .int)
  | 4 => .int
  | 5 => .int
  | 6 => (.array .int)
  | 7 => (.array .int)
  | 8 => (.array .int)
  | 9 => .int
  | 10 => .int
  | 11 => .boolean
  | 12 => (.array .int)
  | 13 => (.array .int)
  | 14 => .int
  | 15 => (.array .int)
  | 16 => (.array .int)
  | 17 => (.array .long)
  | 18 => (.array .int)
  | 19 => (.array .long)
  | 20 => (.array .int)
  | 21 => .int
  | _ => .int
theorem nmMo : ∀ a, a < 23 → ∀ b, b < 23 → a ≠ b → (TMo a).2.1 ≠ (TMo b).2.1 := by decide +kernel
theorem tyMo_ok : ∀ k, k < 23 → parseFieldDescriptor (TMo k).2.2.1 = some (tyMo k) := by decide +kernel
theorem inMo : ∀ w ∈ u_ws RMo TMo 23, w ∈ lw_tbl := by decide +kernel
abbrev vwCl : List vw_C := [(RFa, TFa, 6), (RFs, TFs, 5), (RGr, TGr, 4), (RSe, TSe, 5), (RSq, TSq, 11), (RWe, TWe, 14), (RTo, TTo, 5), (RMo, TMo, 23)]
end
section
abbrev cFa_init : ByteArray := prog_2_method_1_code
def yFa_init : MethodName := ⟨RFa, "<init>", "(ILTableOrders$Graph;LTableOrders$Factor;)V"⟩
theorem dFa_init_0 : decode cFa_init 0 = .ok (.aload_n 0, 1) := by decide +kernel
theorem dFa_init_1 : decode cFa_init 1 = .ok (.invokespecial 1, 3) := by decide +kernel
theorem dFa_init_4 : decode cFa_init 4 = .ok (.aload_n 0, 1) := by decide +kernel
theorem dFa_init_5 : decode cFa_init 5 = .ok (.iconst 1, 1) := by decide +kernel
theorem dFa_init_6 : decode cFa_init 6 = .ok (.putfield 7, 3) := by decide +kernel
theorem dFa_init_9 : decode cFa_init 9 = .ok (.aload_n 0, 1) := by decide +kernel
theorem dFa_init_10 : decode cFa_init 10 = .ok (.iload_n 1, 1) := by decide +kernel
theorem dFa_init_11 : decode cFa_init 11 = .ok (.invokestatic 13, 3) := by decide +kernel
theorem dFa_init_14 : decode cFa_init 14 = .ok (.newarray .int, 2) := by decide +kernel
theorem dFa_init_16 : decode cFa_init 16 = .ok (.putfield 19, 3) := by decide +kernel
theorem dFa_init_19 : decode cFa_init 19 = .ok (.aload_n 0, 1) := by decide +kernel
theorem dFa_init_20 : decode cFa_init 20 = .ok (.aload_n 0, 1) := by decide +kernel
theorem dFa_init_21 : decode cFa_init 21 = .ok (.getfield 19, 3) := by decide +kernel
theorem dFa_init_24 : decode cFa_init 24 = .ok (.arraylength, 1) := by decide +kernel
theorem dFa_init_25 : decode cFa_init 25 = .ok (.newarray .int, 2) := by decide +kernel
theorem dFa_init_27 : decode cFa_init 27 = .ok (.putfield 23, 3) := by decide +kernel
theorem dFa_init_30 : decode cFa_init 30 = .ok (.iconst 1, 1) := by decide +kernel
theorem dFa_init_31 : decode cFa_init 31 = .ok (.istore 4, 2) := by decide +kernel
theorem dFa_init_33 : decode cFa_init 33 = .ok (.iconst 0, 1) := by decide +kernel
theorem dFa_init_34 : decode cFa_init 34 = .ok (.istore 5, 2) := by decide +kernel
theorem dFa_init_36 : decode cFa_init 36 = .ok (.iconst 0, 1) := by decide +kernel
theorem dFa_init_37 : decode cFa_init 37 = .ok (.istore 6, 2) := by decide +kernel
theorem dFa_init_39 : decode cFa_init 39 = .ok (.iload 6, 2) := by decide +kernel
theorem dFa_init_41 : decode cFa_init 41 = .ok (.aload_n 2, 1) := by decide +kernel
theorem dFa_init_42 : decode cFa_init 42 = .ok (.getfield 26, 3) := by decide +kernel
theorem dFa_init_45 : decode cFa_init 45 = .ok (.if_icmp .ge 61, 3) := by decide +kernel
theorem dFa_init_48 : decode cFa_init 48 = .ok (.iload 5, 2) := by decide +kernel
theorem dFa_init_50 : decode cFa_init 50 = .ok (.aload_n 0, 1) := by decide +kernel
theorem dFa_init_51 : decode cFa_init 51 = .ok (.getfield 19, 3) := by decide +kernel
theorem dFa_init_54 : decode cFa_init 54 = .ok (.arraylength, 1) := by decide +kernel
theorem dFa_init_55 : decode cFa_init 55 = .ok (.if_icmp .ge 51, 3) := by decide +kernel
theorem dFa_init_58 : decode cFa_init 58 = .ok (.iload_n 1, 1) := by decide +kernel
theorem dFa_init_59 : decode cFa_init 59 = .ok (.iconst 1, 1) := by decide +kernel
theorem dFa_init_60 : decode cFa_init 60 = .ok (.iload 6, 2) := by decide +kernel
theorem dFa_init_62 : decode cFa_init 62 = .ok (.ishl, 1) := by decide +kernel
theorem dFa_init_63 : decode cFa_init 63 = .ok (.iand, 1) := by decide +kernel
theorem dFa_init_64 : decode cFa_init 64 = .ok (.ifCond .eq 36, 3) := by decide +kernel
theorem dFa_init_67 : decode cFa_init 67 = .ok (.aload_n 0, 1) := by decide +kernel
theorem dFa_init_68 : decode cFa_init 68 = .ok (.getfield 19, 3) := by decide +kernel
theorem dFa_init_71 : decode cFa_init 71 = .ok (.iload 5, 2) := by decide +kernel
theorem dFa_init_73 : decode cFa_init 73 = .ok (.iload 6, 2) := by decide +kernel
theorem dFa_init_75 : decode cFa_init 75 = .ok (.iastore, 1) := by decide +kernel
theorem dFa_init_76 : decode cFa_init 76 = .ok (.aload_n 0, 1) := by decide +kernel
theorem dFa_init_77 : decode cFa_init 77 = .ok (.getfield 23, 3) := by decide +kernel
theorem dFa_init_80 : decode cFa_init 80 = .ok (.iload 5, 2) := by decide +kernel
theorem dFa_init_82 : decode cFa_init 82 = .ok (.iload 4, 2) := by decide +kernel
theorem dFa_init_84 : decode cFa_init 84 = .ok (.iastore, 1) := by decide +kernel
theorem dFa_init_85 : decode cFa_init 85 = .ok (.iload 4, 2) := by decide +kernel
theorem dFa_init_87 : decode cFa_init 87 = .ok (.aload_n 2, 1) := by decide +kernel
theorem dFa_init_88 : decode cFa_init 88 = .ok (.getfield 30, 3) := by decide +kernel
theorem dFa_init_91 : decode cFa_init 91 = .ok (.iload 6, 2) := by decide +kernel
theorem dFa_init_93 : decode cFa_init 93 = .ok (.iaload, 1) := by decide +kernel
theorem dFa_init_94 : decode cFa_init 94 = .ok (.imul, 1) := by decide +kernel
theorem dFa_init_95 : decode cFa_init 95 = .ok (.istore 4, 2) := by decide +kernel
theorem dFa_init_97 : decode cFa_init 97 = .ok (.iinc 5 1, 3) := by decide +kernel
theorem dFa_init_100 : decode cFa_init 100 = .ok (.iinc 6 1, 3) := by decide +kernel
theorem dFa_init_103 : decode cFa_init 103 = .ok (.goto (-64), 3) := by decide +kernel
theorem dFa_init_106 : decode cFa_init 106 = .ok (.aload_n 0, 1) := by decide +kernel
theorem dFa_init_107 : decode cFa_init 107 = .ok (.iload 4, 2) := by decide +kernel
theorem dFa_init_109 : decode cFa_init 109 = .ok (.newarray .int, 2) := by decide +kernel
theorem dFa_init_111 : decode cFa_init 111 = .ok (.putfield 33, 3) := by decide +kernel
theorem dFa_init_114 : decode cFa_init 114 = .ok (.aload_n 0, 1) := by decide +kernel
theorem dFa_init_115 : decode cFa_init 115 = .ok (.iload 4, 2) := by decide +kernel
theorem dFa_init_117 : decode cFa_init 117 = .ok (.newarray .int, 2) := by decide +kernel
theorem dFa_init_119 : decode cFa_init 119 = .ok (.putfield 36, 3) := by decide +kernel
theorem dFa_init_122 : decode cFa_init 122 = .ok (.aload_n 0, 1) := by decide +kernel
theorem dFa_init_123 : decode cFa_init 123 = .ok (.getfield 33, 3) := by decide +kernel
theorem dFa_init_126 : decode cFa_init 126 = .ok (.iconst 1, 1) := by decide +kernel
theorem dFa_init_127 : decode cFa_init 127 = .ok (.invokestatic 39, 3) := by decide +kernel
theorem dFa_init_130 : decode cFa_init 130 = .ok (.aload_n 0, 1) := by decide +kernel
theorem dFa_init_131 : decode cFa_init 131 = .ok (.getfield 36, 3) := by decide +kernel
theorem dFa_init_134 : decode cFa_init 134 = .ok (.iconst 1, 1) := by decide +kernel
theorem dFa_init_135 : decode cFa_init 135 = .ok (.invokestatic 39, 3) := by decide +kernel
theorem dFa_init_138 : decode cFa_init 138 = .ok (.aload_n 0, 1) := by decide +kernel
theorem dFa_init_139 : decode cFa_init 139 = .ok (.aload_n 3, 1) := by decide +kernel
theorem dFa_init_140 : decode cFa_init 140 = .ok (.putfield 45, 3) := by decide +kernel
theorem dFa_init_143 : decode cFa_init 143 = .ok (.return_, 1) := by decide +kernel
abbrev cFa_setEntry : ByteArray := prog_2_method_2_code
def yFa_setEntry : MethodName := ⟨RFa, "setEntry", "(II)I"⟩
theorem dFa_setEntry_0 : decode cFa_setEntry 0 = .ok (.aload_n 0, 1) := by decide +kernel
theorem dFa_setEntry_1 : decode cFa_setEntry 1 = .ok (.getfield 33, 3) := by decide +kernel
theorem dFa_setEntry_4 : decode cFa_setEntry 4 = .ok (.iload_n 1, 1) := by decide +kernel
theorem dFa_setEntry_5 : decode cFa_setEntry 5 = .ok (.iaload, 1) := by decide +kernel
theorem dFa_setEntry_6 : decode cFa_setEntry 6 = .ok (.istore_n 3, 1) := by decide +kernel
theorem dFa_setEntry_7 : decode cFa_setEntry 7 = .ok (.aload_n 0, 1) := by decide +kernel
theorem dFa_setEntry_8 : decode cFa_setEntry 8 = .ok (.getfield 33, 3) := by decide +kernel
theorem dFa_setEntry_11 : decode cFa_setEntry 11 = .ok (.iload_n 1, 1) := by decide +kernel
theorem dFa_setEntry_12 : decode cFa_setEntry 12 = .ok (.iload_n 2, 1) := by decide +kernel
theorem dFa_setEntry_13 : decode cFa_setEntry 13 = .ok (.iastore, 1) := by decide +kernel
theorem dFa_setEntry_14 : decode cFa_setEntry 14 = .ok (.aload_n 0, 1) := by decide +kernel
theorem dFa_setEntry_15 : decode cFa_setEntry 15 = .ok (.getfield 36, 3) := by decide +kernel
theorem dFa_setEntry_18 : decode cFa_setEntry 18 = .ok (.iload_n 1, 1) := by decide +kernel
theorem dFa_setEntry_19 : decode cFa_setEntry 19 = .ok (.aload_n 0, 1) := by decide +kernel
theorem dFa_setEntry_20 : decode cFa_setEntry 20 = .ok (.iload_n 2, 1) := by decide +kernel
theorem dFa_setEntry_21 : decode cFa_setEntry 21 = .ok (.invokevirtual 49, 3) := by decide +kernel
theorem dFa_setEntry_24 : decode cFa_setEntry 24 = .ok (.iastore, 1) := by decide +kernel
theorem dFa_setEntry_25 : decode cFa_setEntry 25 = .ok (.iload_n 3, 1) := by decide +kernel
theorem dFa_setEntry_26 : decode cFa_setEntry 26 = .ok (.ireturn, 1) := by decide +kernel
abbrev cFa_setTimes : ByteArray := prog_2_method_3_code
def yFa_setTimes : MethodName := ⟨RFa, "setTimes", "(I)I"⟩
theorem dFa_setTimes_0 : decode cFa_setTimes 0 = .ok (.aload_n 0, 1) := by decide +kernel
theorem dFa_setTimes_1 : decode cFa_setTimes 1 = .ok (.getfield 7, 3) := by decide +kernel
theorem dFa_setTimes_4 : decode cFa_setTimes 4 = .ok (.istore_n 2, 1) := by decide +kernel
theorem dFa_setTimes_5 : decode cFa_setTimes 5 = .ok (.aload_n 0, 1) := by decide +kernel
theorem dFa_setTimes_6 : decode cFa_setTimes 6 = .ok (.iload_n 1, 1) := by decide +kernel
theorem dFa_setTimes_7 : decode cFa_setTimes 7 = .ok (.putfield 7, 3) := by decide +kernel
theorem dFa_setTimes_10 : decode cFa_setTimes 10 = .ok (.iconst 0, 1) := by decide +kernel
theorem dFa_setTimes_11 : decode cFa_setTimes 11 = .ok (.istore_n 3, 1) := by decide +kernel
theorem dFa_setTimes_12 : decode cFa_setTimes 12 = .ok (.iload_n 3, 1) := by decide +kernel
theorem dFa_setTimes_13 : decode cFa_setTimes 13 = .ok (.aload_n 0, 1) := by decide +kernel
theorem dFa_setTimes_14 : decode cFa_setTimes 14 = .ok (.getfield 33, 3) := by decide +kernel
theorem dFa_setTimes_17 : decode cFa_setTimes 17 = .ok (.arraylength, 1) := by decide +kernel
theorem dFa_setTimes_18 : decode cFa_setTimes 18 = .ok (.if_icmp .ge 25, 3) := by decide +kernel
theorem dFa_setTimes_21 : decode cFa_setTimes 21 = .ok (.aload_n 0, 1) := by decide +kernel
theorem dFa_setTimes_22 : decode cFa_setTimes 22 = .ok (.getfield 36, 3) := by decide +kernel
theorem dFa_setTimes_25 : decode cFa_setTimes 25 = .ok (.iload_n 3, 1) := by decide +kernel
theorem dFa_setTimes_26 : decode cFa_setTimes 26 = .ok (.aload_n 0, 1) := by decide +kernel
theorem dFa_setTimes_27 : decode cFa_setTimes 27 = .ok (.aload_n 0, 1) := by decide +kernel
theorem dFa_setTimes_28 : decode cFa_setTimes 28 = .ok (.getfield 33, 3) := by decide +kernel
theorem dFa_setTimes_31 : decode cFa_setTimes 31 = .ok (.iload_n 3, 1) := by decide +kernel
theorem dFa_setTimes_32 : decode cFa_setTimes 32 = .ok (.iaload, 1) := by decide +kernel
theorem dFa_setTimes_33 : decode cFa_setTimes 33 = .ok (.invokevirtual 49, 3) := by decide +kernel
theorem dFa_setTimes_36 : decode cFa_setTimes 36 = .ok (.iastore, 1) := by decide +kernel
theorem dFa_setTimes_37 : decode cFa_setTimes 37 = .ok (.iinc 3 1, 3) := by decide +kernel
theorem dFa_setTimes_40 : decode cFa_setTimes 40 = .ok (.goto (-28), 3) := by decide +kernel
theorem dFa_setTimes_43 : decode cFa_setTimes 43 = .ok (.iload_n 2, 1) := by decide +kernel
theorem dFa_setTimes_44 : decode cFa_setTimes 44 = .ok (.ireturn, 1) := by decide +kernel
abbrev cFa_power : ByteArray := prog_2_method_4_code
def yFa_power : MethodName := ⟨RFa, "power", "(I)I"⟩
theorem dFa_power_0 : decode cFa_power 0 = .ok (.iconst 1, 1) := by decide +kernel
theorem dFa_power_1 : decode cFa_power 1 = .ok (.istore_n 2, 1) := by decide +kernel
theorem dFa_power_2 : decode cFa_power 2 = .ok (.iconst 0, 1) := by decide +kernel
theorem dFa_power_3 : decode cFa_power 3 = .ok (.istore_n 3, 1) := by decide +kernel
theorem dFa_power_4 : decode cFa_power 4 = .ok (.iload_n 3, 1) := by decide +kernel
theorem dFa_power_5 : decode cFa_power 5 = .ok (.aload_n 0, 1) := by decide +kernel
theorem dFa_power_6 : decode cFa_power 6 = .ok (.getfield 7, 3) := by decide +kernel
theorem dFa_power_9 : decode cFa_power 9 = .ok (.if_icmp .ge 13, 3) := by decide +kernel
theorem dFa_power_12 : decode cFa_power 12 = .ok (.iload_n 2, 1) := by decide +kernel
theorem dFa_power_13 : decode cFa_power 13 = .ok (.iload_n 1, 1) := by decide +kernel
theorem dFa_power_14 : decode cFa_power 14 = .ok (.imul, 1) := by decide +kernel
theorem dFa_power_15 : decode cFa_power 15 = .ok (.istore_n 2, 1) := by decide +kernel
theorem dFa_power_16 : decode cFa_power 16 = .ok (.iinc 3 1, 3) := by decide +kernel
theorem dFa_power_19 : decode cFa_power 19 = .ok (.goto (-15), 3) := by decide +kernel
theorem dFa_power_22 : decode cFa_power 22 = .ok (.iload_n 2, 1) := by decide +kernel
theorem dFa_power_23 : decode cFa_power 23 = .ok (.ireturn, 1) := by decide +kernel
abbrev cFa_entryAt : ByteArray := prog_2_method_5_code
def yFa_entryAt : MethodName := ⟨RFa, "entryAt", "([I)I"⟩
theorem dFa_entryAt_0 : decode cFa_entryAt 0 = .ok (.iconst 0, 1) := by decide +kernel
theorem dFa_entryAt_1 : decode cFa_entryAt 1 = .ok (.istore_n 2, 1) := by decide +kernel
theorem dFa_entryAt_2 : decode cFa_entryAt 2 = .ok (.iconst 0, 1) := by decide +kernel
theorem dFa_entryAt_3 : decode cFa_entryAt 3 = .ok (.istore_n 3, 1) := by decide +kernel
theorem dFa_entryAt_4 : decode cFa_entryAt 4 = .ok (.iload_n 3, 1) := by decide +kernel
theorem dFa_entryAt_5 : decode cFa_entryAt 5 = .ok (.aload_n 0, 1) := by decide +kernel
theorem dFa_entryAt_6 : decode cFa_entryAt 6 = .ok (.getfield 19, 3) := by decide +kernel
theorem dFa_entryAt_9 : decode cFa_entryAt 9 = .ok (.arraylength, 1) := by decide +kernel
theorem dFa_entryAt_10 : decode cFa_entryAt 10 = .ok (.if_icmp .ge 27, 3) := by decide +kernel
theorem dFa_entryAt_13 : decode cFa_entryAt 13 = .ok (.iload_n 2, 1) := by decide +kernel
theorem dFa_entryAt_14 : decode cFa_entryAt 14 = .ok (.aload_n 1, 1) := by decide +kernel
theorem dFa_entryAt_15 : decode cFa_entryAt 15 = .ok (.aload_n 0, 1) := by decide +kernel
theorem dFa_entryAt_16 : decode cFa_entryAt 16 = .ok (.getfield 19, 3) := by decide +kernel
theorem dFa_entryAt_19 : decode cFa_entryAt 19 = .ok (.iload_n 3, 1) := by decide +kernel
theorem dFa_entryAt_20 : decode cFa_entryAt 20 = .ok (.iaload, 1) := by decide +kernel
theorem dFa_entryAt_21 : decode cFa_entryAt 21 = .ok (.iaload, 1) := by decide +kernel
theorem dFa_entryAt_22 : decode cFa_entryAt 22 = .ok (.aload_n 0, 1) := by decide +kernel
theorem dFa_entryAt_23 : decode cFa_entryAt 23 = .ok (.getfield 23, 3) := by decide +kernel
theorem dFa_entryAt_26 : decode cFa_entryAt 26 = .ok (.iload_n 3, 1) := by decide +kernel
theorem dFa_entryAt_27 : decode cFa_entryAt 27 = .ok (.iaload, 1) := by decide +kernel
theorem dFa_entryAt_28 : decode cFa_entryAt 28 = .ok (.imul, 1) := by decide +kernel
theorem dFa_entryAt_29 : decode cFa_entryAt 29 = .ok (.iadd, 1) := by decide +kernel
theorem dFa_entryAt_30 : decode cFa_entryAt 30 = .ok (.istore_n 2, 1) := by decide +kernel
theorem dFa_entryAt_31 : decode cFa_entryAt 31 = .ok (.iinc 3 1, 3) := by decide +kernel
theorem dFa_entryAt_34 : decode cFa_entryAt 34 = .ok (.goto (-30), 3) := by decide +kernel
theorem dFa_entryAt_37 : decode cFa_entryAt 37 = .ok (.iload_n 2, 1) := by decide +kernel
theorem dFa_entryAt_38 : decode cFa_entryAt 38 = .ok (.ireturn, 1) := by decide +kernel
abbrev cFa_powerAt : ByteArray := prog_2_method_6_code
def yFa_powerAt : MethodName := ⟨RFa, "powerAt", "([I)I"⟩
theorem dFa_powerAt_0 : decode cFa_powerAt 0 = .ok (.aload_n 0, 1) := by decide +kernel
theorem dFa_powerAt_1 : decode cFa_powerAt 1 = .ok (.aload_n 1, 1) := by decide +kernel
theorem dFa_powerAt_2 : decode cFa_powerAt 2 = .ok (.invokevirtual 52, 3) := by decide +kernel
theorem dFa_powerAt_5 : decode cFa_powerAt 5 = .ok (.istore_n 2, 1) := by decide +kernel
theorem dFa_powerAt_6 : decode cFa_powerAt 6 = .ok (.iload_n 2, 1) := by decide +kernel
theorem dFa_powerAt_7 : decode cFa_powerAt 7 = .ok (.aload_n 0, 1) := by decide +kernel
theorem dFa_powerAt_8 : decode cFa_powerAt 8 = .ok (.getfield 36, 3) := by decide +kernel
theorem dFa_powerAt_11 : decode cFa_powerAt 11 = .ok (.arraylength, 1) := by decide +kernel
theorem dFa_powerAt_12 : decode cFa_powerAt 12 = .ok (.if_icmp .ge 12, 3) := by decide +kernel
theorem dFa_powerAt_15 : decode cFa_powerAt 15 = .ok (.aload_n 0, 1) := by decide +kernel
theorem dFa_powerAt_16 : decode cFa_powerAt 16 = .ok (.getfield 36, 3) := by decide +kernel
theorem dFa_powerAt_19 : decode cFa_powerAt 19 = .ok (.iload_n 2, 1) := by decide +kernel
theorem dFa_powerAt_20 : decode cFa_powerAt 20 = .ok (.iaload, 1) := by decide +kernel
theorem dFa_powerAt_21 : decode cFa_powerAt 21 = .ok (.goto 4, 3) := by decide +kernel
theorem dFa_powerAt_24 : decode cFa_powerAt 24 = .ok (.iconst 0, 1) := by decide +kernel
theorem dFa_powerAt_25 : decode cFa_powerAt 25 = .ok (.ireturn, 1) := by decide +kernel
abbrev cFa_multiply : ByteArray := prog_2_method_7_code
def yFa_multiply : MethodName := ⟨RFa, "multiply", "([JII[I)V"⟩
theorem dFa_multiply_0 : decode cFa_multiply 0 = .ok (.aload_n 0, 1) := by decide +kernel
theorem dFa_multiply_1 : decode cFa_multiply 1 = .ok (.getfield 23, 3) := by decide +kernel
theorem dFa_multiply_4 : decode cFa_multiply 4 = .ok (.arraylength, 1) := by decide +kernel
theorem dFa_multiply_5 : decode cFa_multiply 5 = .ok (.ifCond .ne 7, 3) := by decide +kernel
theorem dFa_multiply_8 : decode cFa_multiply 8 = .ok (.iconst 0, 1) := by decide +kernel
theorem dFa_multiply_9 : decode cFa_multiply 9 = .ok (.goto 15, 3) := by decide +kernel
theorem dFa_multiply_12 : decode cFa_multiply 12 = .ok (.aload_n 0, 1) := by decide +kernel
theorem dFa_multiply_13 : decode cFa_multiply 13 = .ok (.getfield 23, 3) := by decide +kernel
theorem dFa_multiply_16 : decode cFa_multiply 16 = .ok (.aload_n 0, 1) := by decide +kernel
theorem dFa_multiply_17 : decode cFa_multiply 17 = .ok (.getfield 23, 3) := by decide +kernel
theorem dFa_multiply_20 : decode cFa_multiply 20 = .ok (.arraylength, 1) := by decide +kernel
theorem dFa_multiply_21 : decode cFa_multiply 21 = .ok (.iconst 1, 1) := by decide +kernel
theorem dFa_multiply_22 : decode cFa_multiply 22 = .ok (.isub, 1) := by decide +kernel
theorem dFa_multiply_23 : decode cFa_multiply 23 = .ok (.iaload, 1) := by decide +kernel
theorem dFa_multiply_24 : decode cFa_multiply 24 = .ok (.istore 5, 2) := by decide +kernel
theorem dFa_multiply_26 : decode cFa_multiply 26 = .ok (.aload_n 0, 1) := by decide +kernel
theorem dFa_multiply_27 : decode cFa_multiply 27 = .ok (.aload 4, 2) := by decide +kernel
theorem dFa_multiply_29 : decode cFa_multiply 29 = .ok (.invokevirtual 52, 3) := by decide +kernel
theorem dFa_multiply_32 : decode cFa_multiply 32 = .ok (.istore 6, 2) := by decide +kernel
theorem dFa_multiply_34 : decode cFa_multiply 34 = .ok (.iconst 0, 1) := by decide +kernel
theorem dFa_multiply_35 : decode cFa_multiply 35 = .ok (.istore 7, 2) := by decide +kernel
theorem dFa_multiply_37 : decode cFa_multiply 37 = .ok (.iload 7, 2) := by decide +kernel
theorem dFa_multiply_39 : decode cFa_multiply 39 = .ok (.iload_n 3, 1) := by decide +kernel
theorem dFa_multiply_40 : decode cFa_multiply 40 = .ok (.if_icmp .ge 43, 3) := by decide +kernel
theorem dFa_multiply_43 : decode cFa_multiply 43 = .ok (.iload 6, 2) := by decide +kernel
theorem dFa_multiply_45 : decode cFa_multiply 45 = .ok (.aload_n 0, 1) := by decide +kernel
theorem dFa_multiply_46 : decode cFa_multiply 46 = .ok (.getfield 36, 3) := by decide +kernel
theorem dFa_multiply_49 : decode cFa_multiply 49 = .ok (.arraylength, 1) := by decide +kernel
theorem dFa_multiply_50 : decode cFa_multiply 50 = .ok (.if_icmp .ge 33, 3) := by decide +kernel
theorem dFa_multiply_53 : decode cFa_multiply 53 = .ok (.aload_n 1, 1) := by decide +kernel
theorem dFa_multiply_54 : decode cFa_multiply 54 = .ok (.iload_n 2, 1) := by decide +kernel
theorem dFa_multiply_55 : decode cFa_multiply 55 = .ok (.iload 7, 2) := by decide +kernel
theorem dFa_multiply_57 : decode cFa_multiply 57 = .ok (.iadd, 1) := by decide +kernel
theorem dFa_multiply_58 : decode cFa_multiply 58 = .ok (.dup2, 1) := by decide +kernel
theorem dFa_multiply_59 : decode cFa_multiply 59 = .ok (.laload, 1) := by decide +kernel
theorem dFa_multiply_60 : decode cFa_multiply 60 = .ok (.aload_n 0, 1) := by decide +kernel
theorem dFa_multiply_61 : decode cFa_multiply 61 = .ok (.getfield 36, 3) := by decide +kernel
theorem dFa_multiply_64 : decode cFa_multiply 64 = .ok (.iload 6, 2) := by decide +kernel
theorem dFa_multiply_66 : decode cFa_multiply 66 = .ok (.iaload, 1) := by decide +kernel
theorem dFa_multiply_67 : decode cFa_multiply 67 = .ok (.i2l, 1) := by decide +kernel
theorem dFa_multiply_68 : decode cFa_multiply 68 = .ok (.lmul, 1) := by decide +kernel
theorem dFa_multiply_69 : decode cFa_multiply 69 = .ok (.lastore, 1) := by decide +kernel
theorem dFa_multiply_70 : decode cFa_multiply 70 = .ok (.iload 6, 2) := by decide +kernel
theorem dFa_multiply_72 : decode cFa_multiply 72 = .ok (.iload 5, 2) := by decide +kernel
theorem dFa_multiply_74 : decode cFa_multiply 74 = .ok (.iadd, 1) := by decide +kernel
theorem dFa_multiply_75 : decode cFa_multiply 75 = .ok (.istore 6, 2) := by decide +kernel
theorem dFa_multiply_77 : decode cFa_multiply 77 = .ok (.iinc 7 1, 3) := by decide +kernel
theorem dFa_multiply_80 : decode cFa_multiply 80 = .ok (.goto (-43), 3) := by decide +kernel
theorem dFa_multiply_83 : decode cFa_multiply 83 = .ok (.return_, 1) := by decide +kernel
end
section
abbrev cFs_init : ByteArray := prog_3_method_1_code
def yFs_init : MethodName := ⟨RFs, "<init>", "(LTableOrders$Graph;)V"⟩
theorem dFs_init_0 : decode cFs_init 0 = .ok (.aload_n 0, 1) := by decide +kernel
theorem dFs_init_1 : decode cFs_init 1 = .ok (.invokespecial 3, 3) := by decide +kernel
theorem dFs_init_4 : decode cFs_init 4 = .ok (.aload_n 0, 1) := by decide +kernel
theorem dFs_init_5 : decode cFs_init 5 = .ok (.bipush 16, 2) := by decide +kernel
theorem dFs_init_7 : decode cFs_init 7 = .ok (.anewarray 9, 3) := by decide +kernel
theorem dFs_init_10 : decode cFs_init 10 = .ok (.putfield 11, 3) := by decide +kernel
theorem dFs_init_13 : decode cFs_init 13 = .ok (.aload_n 0, 1) := by decide +kernel
theorem dFs_init_14 : decode cFs_init 14 = .ok (.bipush 13, 2) := by decide +kernel
theorem dFs_init_16 : decode cFs_init 16 = .ok (.anewarray 9, 3) := by decide +kernel
theorem dFs_init_19 : decode cFs_init 19 = .ok (.putfield 17, 3) := by decide +kernel
theorem dFs_init_22 : decode cFs_init 22 = .ok (.aload_n 0, 1) := by decide +kernel
theorem dFs_init_23 : decode cFs_init 23 = .ok (.aload_n 1, 1) := by decide +kernel
theorem dFs_init_24 : decode cFs_init 24 = .ok (.putfield 20, 3) := by decide +kernel
theorem dFs_init_27 : decode cFs_init 27 = .ok (.return_, 1) := by decide +kernel
abbrev cFs_add : ByteArray := prog_3_method_2_code
def yFs_add : MethodName := ⟨RFs, "add", "(I)I"⟩
theorem dFs_add_0 : decode cFs_add 0 = .ok (.aload_n 0, 1) := by decide +kernel
theorem dFs_add_1 : decode cFs_add 1 = .ok (.getfield 24, 3) := by decide +kernel
theorem dFs_add_4 : decode cFs_add 4 = .ok (.istore_n 2, 1) := by decide +kernel
theorem dFs_add_5 : decode cFs_add 5 = .ok (.iload_n 2, 1) := by decide +kernel
theorem dFs_add_6 : decode cFs_add 6 = .ok (.bipush 16, 2) := by decide +kernel
theorem dFs_add_8 : decode cFs_add 8 = .ok (.if_icmp .ge 61, 3) := by decide +kernel
theorem dFs_add_11 : decode cFs_add 11 = .ok (.iload_n 1, 1) := by decide +kernel
theorem dFs_add_12 : decode cFs_add 12 = .ok (.invokestatic 28, 3) := by decide +kernel
theorem dFs_add_15 : decode cFs_add 15 = .ok (.istore_n 3, 1) := by decide +kernel
theorem dFs_add_16 : decode cFs_add 16 = .ok (.new 9, 3) := by decide +kernel
theorem dFs_add_19 : decode cFs_add 19 = .ok (.dup, 1) := by decide +kernel
theorem dFs_add_20 : decode cFs_add 20 = .ok (.iload_n 1, 1) := by decide +kernel
theorem dFs_add_21 : decode cFs_add 21 = .ok (.aload_n 0, 1) := by decide +kernel
theorem dFs_add_22 : decode cFs_add 22 = .ok (.getfield 20, 3) := by decide +kernel
theorem dFs_add_25 : decode cFs_add 25 = .ok (.aload_n 0, 1) := by decide +kernel
theorem dFs_add_26 : decode cFs_add 26 = .ok (.getfield 17, 3) := by decide +kernel
theorem dFs_add_29 : decode cFs_add 29 = .ok (.iload_n 3, 1) := by decide +kernel
theorem dFs_add_30 : decode cFs_add 30 = .ok (.aaload, 1) := by decide +kernel
theorem dFs_add_31 : decode cFs_add 31 = .ok (.invokespecial 32, 3) := by decide +kernel
theorem dFs_add_34 : decode cFs_add 34 = .ok (.astore 4, 2) := by decide +kernel
theorem dFs_add_36 : decode cFs_add 36 = .ok (.aload_n 0, 1) := by decide +kernel
theorem dFs_add_37 : decode cFs_add 37 = .ok (.getfield 11, 3) := by decide +kernel
theorem dFs_add_40 : decode cFs_add 40 = .ok (.iload_n 2, 1) := by decide +kernel
theorem dFs_add_41 : decode cFs_add 41 = .ok (.aload 4, 2) := by decide +kernel
theorem dFs_add_43 : decode cFs_add 43 = .ok (.aastore, 1) := by decide +kernel
theorem dFs_add_44 : decode cFs_add 44 = .ok (.aload_n 0, 1) := by decide +kernel
theorem dFs_add_45 : decode cFs_add 45 = .ok (.getfield 17, 3) := by decide +kernel
theorem dFs_add_48 : decode cFs_add 48 = .ok (.iload_n 3, 1) := by decide +kernel
theorem dFs_add_49 : decode cFs_add 49 = .ok (.aload 4, 2) := by decide +kernel
theorem dFs_add_51 : decode cFs_add 51 = .ok (.aastore, 1) := by decide +kernel
theorem dFs_add_52 : decode cFs_add 52 = .ok (.aload_n 0, 1) := by decide +kernel
theorem dFs_add_53 : decode cFs_add 53 = .ok (.iload_n 2, 1) := by decide +kernel
theorem dFs_add_54 : decode cFs_add 54 = .ok (.iconst 1, 1) := by decide +kernel
theorem dFs_add_55 : decode cFs_add 55 = .ok (.iadd, 1) := by decide +kernel
theorem dFs_add_56 : decode cFs_add 56 = .ok (.putfield 24, 3) := by decide +kernel
theorem dFs_add_59 : decode cFs_add 59 = .ok (.aload_n 0, 1) := by decide +kernel
theorem dFs_add_60 : decode cFs_add 60 = .ok (.dup, 1) := by decide +kernel
theorem dFs_add_61 : decode cFs_add 61 = .ok (.getfield 35, 3) := by decide +kernel
theorem dFs_add_64 : decode cFs_add 64 = .ok (.iconst 1, 1) := by decide +kernel
theorem dFs_add_65 : decode cFs_add 65 = .ok (.iadd, 1) := by decide +kernel
theorem dFs_add_66 : decode cFs_add 66 = .ok (.putfield 35, 3) := by decide +kernel
theorem dFs_add_69 : decode cFs_add 69 = .ok (.iload_n 2, 1) := by decide +kernel
theorem dFs_add_70 : decode cFs_add 70 = .ok (.ireturn, 1) := by decide +kernel
abbrev cFs_afterLastName : ByteArray := prog_3_method_3_code
def yFs_afterLastName : MethodName := ⟨RFs, "afterLastName", "(I)I"⟩
theorem dFs_afterLastName_0 : decode cFs_afterLastName 0 = .ok (.iconst 0, 1) := by decide +kernel
theorem dFs_afterLastName_1 : decode cFs_afterLastName 1 = .ok (.istore_n 1, 1) := by decide +kernel
theorem dFs_afterLastName_2 : decode cFs_afterLastName 2 = .ok (.iconst 0, 1) := by decide +kernel
theorem dFs_afterLastName_3 : decode cFs_afterLastName 3 = .ok (.istore_n 2, 1) := by decide +kernel
theorem dFs_afterLastName_4 : decode cFs_afterLastName 4 = .ok (.iload_n 2, 1) := by decide +kernel
theorem dFs_afterLastName_5 : decode cFs_afterLastName 5 = .ok (.bipush 12, 2) := by decide +kernel
theorem dFs_afterLastName_7 : decode cFs_afterLastName 7 = .ok (.if_icmp .ge 21, 3) := by decide +kernel
theorem dFs_afterLastName_10 : decode cFs_afterLastName 10 = .ok (.iload_n 0, 1) := by decide +kernel
theorem dFs_afterLastName_11 : decode cFs_afterLastName 11 = .ok (.iconst 1, 1) := by decide +kernel
theorem dFs_afterLastName_12 : decode cFs_afterLastName 12 = .ok (.iload_n 2, 1) := by decide +kernel
theorem dFs_afterLastName_13 : decode cFs_afterLastName 13 = .ok (.ishl, 1) := by decide +kernel
theorem dFs_afterLastName_14 : decode cFs_afterLastName 14 = .ok (.iand, 1) := by decide +kernel
theorem dFs_afterLastName_15 : decode cFs_afterLastName 15 = .ok (.ifCond .eq 7, 3) := by decide +kernel
theorem dFs_afterLastName_18 : decode cFs_afterLastName 18 = .ok (.iload_n 2, 1) := by decide +kernel
theorem dFs_afterLastName_19 : decode cFs_afterLastName 19 = .ok (.iconst 1, 1) := by decide +kernel
theorem dFs_afterLastName_20 : decode cFs_afterLastName 20 = .ok (.iadd, 1) := by decide +kernel
theorem dFs_afterLastName_21 : decode cFs_afterLastName 21 = .ok (.istore_n 1, 1) := by decide +kernel
theorem dFs_afterLastName_22 : decode cFs_afterLastName 22 = .ok (.iinc 2 1, 3) := by decide +kernel
theorem dFs_afterLastName_25 : decode cFs_afterLastName 25 = .ok (.goto (-21), 3) := by decide +kernel
theorem dFs_afterLastName_28 : decode cFs_afterLastName 28 = .ok (.iload_n 1, 1) := by decide +kernel
theorem dFs_afterLastName_29 : decode cFs_afterLastName 29 = .ok (.ireturn, 1) := by decide +kernel
abbrev cFs_numbered : ByteArray := prog_3_method_4_code
def yFs_numbered : MethodName := ⟨RFs, "numbered", "(I)LTableOrders$Factor;"⟩
theorem dFs_numbered_0 : decode cFs_numbered 0 = .ok (.iload_n 1, 1) := by decide +kernel
theorem dFs_numbered_1 : decode cFs_numbered 1 = .ok (.ifCond .lt 11, 3) := by decide +kernel
theorem dFs_numbered_4 : decode cFs_numbered 4 = .ok (.iload_n 1, 1) := by decide +kernel
theorem dFs_numbered_5 : decode cFs_numbered 5 = .ok (.aload_n 0, 1) := by decide +kernel
theorem dFs_numbered_6 : decode cFs_numbered 6 = .ok (.getfield 24, 3) := by decide +kernel
theorem dFs_numbered_9 : decode cFs_numbered 9 = .ok (.if_icmp .lt 7, 3) := by decide +kernel
theorem dFs_numbered_12 : decode cFs_numbered 12 = .ok (.aconst_null, 1) := by decide +kernel
theorem dFs_numbered_13 : decode cFs_numbered 13 = .ok (.goto 9, 3) := by decide +kernel
theorem dFs_numbered_16 : decode cFs_numbered 16 = .ok (.aload_n 0, 1) := by decide +kernel
theorem dFs_numbered_17 : decode cFs_numbered 17 = .ok (.getfield 11, 3) := by decide +kernel
theorem dFs_numbered_20 : decode cFs_numbered 20 = .ok (.iload_n 1, 1) := by decide +kernel
theorem dFs_numbered_21 : decode cFs_numbered 21 = .ok (.aaload, 1) := by decide +kernel
theorem dFs_numbered_22 : decode cFs_numbered 22 = .ok (.areturn, 1) := by decide +kernel
abbrev cFs_setCopies : ByteArray := prog_3_method_5_code
def yFs_setCopies : MethodName := ⟨RFs, "setCopies", "(LTableOrders$Factor;I)I"⟩
theorem dFs_setCopies_0 : decode cFs_setCopies 0 = .ok (.aload_n 1, 1) := by decide +kernel
theorem dFs_setCopies_1 : decode cFs_setCopies 1 = .ok (.iload_n 2, 1) := by decide +kernel
theorem dFs_setCopies_2 : decode cFs_setCopies 2 = .ok (.invokevirtual 38, 3) := by decide +kernel
theorem dFs_setCopies_5 : decode cFs_setCopies 5 = .ok (.istore_n 3, 1) := by decide +kernel
theorem dFs_setCopies_6 : decode cFs_setCopies 6 = .ok (.aload_n 0, 1) := by decide +kernel
theorem dFs_setCopies_7 : decode cFs_setCopies 7 = .ok (.dup, 1) := by decide +kernel
theorem dFs_setCopies_8 : decode cFs_setCopies 8 = .ok (.getfield 35, 3) := by decide +kernel
theorem dFs_setCopies_11 : decode cFs_setCopies 11 = .ok (.iload_n 2, 1) := by decide +kernel
theorem dFs_setCopies_12 : decode cFs_setCopies 12 = .ok (.iload_n 3, 1) := by decide +kernel
theorem dFs_setCopies_13 : decode cFs_setCopies 13 = .ok (.isub, 1) := by decide +kernel
theorem dFs_setCopies_14 : decode cFs_setCopies 14 = .ok (.iadd, 1) := by decide +kernel
theorem dFs_setCopies_15 : decode cFs_setCopies 15 = .ok (.putfield 35, 3) := by decide +kernel
theorem dFs_setCopies_18 : decode cFs_setCopies 18 = .ok (.iload_n 3, 1) := by decide +kernel
theorem dFs_setCopies_19 : decode cFs_setCopies 19 = .ok (.ireturn, 1) := by decide +kernel
abbrev cFs_productWithoutNames : ByteArray := prog_3_method_6_code
def yFs_productWithoutNames : MethodName := ⟨RFs, "productWithoutNames", "()J"⟩
theorem dFs_productWithoutNames_0 : decode cFs_productWithoutNames 0 = .ok (.lconst 1, 1) := by decide +kernel
theorem dFs_productWithoutNames_1 : decode cFs_productWithoutNames 1 = .ok (.lstore_n 1, 1) := by decide +kernel
theorem dFs_productWithoutNames_2 : decode cFs_productWithoutNames 2 = .ok (.aload_n 0, 1) := by decide +kernel
theorem dFs_productWithoutNames_3 : decode cFs_productWithoutNames 3 = .ok (.getfield 17, 3) := by decide +kernel
theorem dFs_productWithoutNames_6 : decode cFs_productWithoutNames 6 = .ok (.iconst 0, 1) := by decide +kernel
theorem dFs_productWithoutNames_7 : decode cFs_productWithoutNames 7 = .ok (.aaload, 1) := by decide +kernel
theorem dFs_productWithoutNames_8 : decode cFs_productWithoutNames 8 = .ok (.astore_n 3, 1) := by decide +kernel
theorem dFs_productWithoutNames_9 : decode cFs_productWithoutNames 9 = .ok (.aload_n 3, 1) := by decide +kernel
theorem dFs_productWithoutNames_10 : decode cFs_productWithoutNames 10 = .ok (.ifnull 21, 3) := by decide +kernel
theorem dFs_productWithoutNames_13 : decode cFs_productWithoutNames 13 = .ok (.lload_n 1, 1) := by decide +kernel
theorem dFs_productWithoutNames_14 : decode cFs_productWithoutNames 14 = .ok (.aload_n 3, 1) := by decide +kernel
theorem dFs_productWithoutNames_15 : decode cFs_productWithoutNames 15 = .ok (.getfield 41, 3) := by decide +kernel
theorem dFs_productWithoutNames_18 : decode cFs_productWithoutNames 18 = .ok (.iconst 0, 1) := by decide +kernel
theorem dFs_productWithoutNames_19 : decode cFs_productWithoutNames 19 = .ok (.iaload, 1) := by decide +kernel
theorem dFs_productWithoutNames_20 : decode cFs_productWithoutNames 20 = .ok (.i2l, 1) := by decide +kernel
theorem dFs_productWithoutNames_21 : decode cFs_productWithoutNames 21 = .ok (.lmul, 1) := by decide +kernel
theorem dFs_productWithoutNames_22 : decode cFs_productWithoutNames 22 = .ok (.lstore_n 1, 1) := by decide +kernel
theorem dFs_productWithoutNames_23 : decode cFs_productWithoutNames 23 = .ok (.aload_n 3, 1) := by decide +kernel
theorem dFs_productWithoutNames_24 : decode cFs_productWithoutNames 24 = .ok (.getfield 45, 3) := by decide +kernel
theorem dFs_productWithoutNames_27 : decode cFs_productWithoutNames 27 = .ok (.astore_n 3, 1) := by decide +kernel
theorem dFs_productWithoutNames_28 : decode cFs_productWithoutNames 28 = .ok (.goto (-19), 3) := by decide +kernel
theorem dFs_productWithoutNames_31 : decode cFs_productWithoutNames 31 = .ok (.lload_n 1, 1) := by decide +kernel
theorem dFs_productWithoutNames_32 : decode cFs_productWithoutNames 32 = .ok (.lreturn, 1) := by decide +kernel
abbrev cFs_multiplyLast : ByteArray := prog_3_method_7_code
def yFs_multiplyLast : MethodName := ⟨RFs, "multiplyLast", "(I[JI[I)V"⟩
theorem dFs_multiplyLast_0 : decode cFs_multiplyLast 0 = .ok (.aload_n 0, 1) := by decide +kernel
theorem dFs_multiplyLast_1 : decode cFs_multiplyLast 1 = .ok (.getfield 20, 3) := by decide +kernel
theorem dFs_multiplyLast_4 : decode cFs_multiplyLast 4 = .ok (.getfield 49, 3) := by decide +kernel
theorem dFs_multiplyLast_7 : decode cFs_multiplyLast 7 = .ok (.iload_n 1, 1) := by decide +kernel
theorem dFs_multiplyLast_8 : decode cFs_multiplyLast 8 = .ok (.iaload, 1) := by decide +kernel
theorem dFs_multiplyLast_9 : decode cFs_multiplyLast 9 = .ok (.istore 5, 2) := by decide +kernel
theorem dFs_multiplyLast_11 : decode cFs_multiplyLast 11 = .ok (.aload_n 0, 1) := by decide +kernel
theorem dFs_multiplyLast_12 : decode cFs_multiplyLast 12 = .ok (.getfield 17, 3) := by decide +kernel
theorem dFs_multiplyLast_15 : decode cFs_multiplyLast 15 = .ok (.iload_n 1, 1) := by decide +kernel
theorem dFs_multiplyLast_16 : decode cFs_multiplyLast 16 = .ok (.iconst 1, 1) := by decide +kernel
theorem dFs_multiplyLast_17 : decode cFs_multiplyLast 17 = .ok (.iadd, 1) := by decide +kernel
theorem dFs_multiplyLast_18 : decode cFs_multiplyLast 18 = .ok (.aaload, 1) := by decide +kernel
theorem dFs_multiplyLast_19 : decode cFs_multiplyLast 19 = .ok (.astore 6, 2) := by decide +kernel
theorem dFs_multiplyLast_21 : decode cFs_multiplyLast 21 = .ok (.aload 6, 2) := by decide +kernel
theorem dFs_multiplyLast_23 : decode cFs_multiplyLast 23 = .ok (.ifnull 24, 3) := by decide +kernel
theorem dFs_multiplyLast_26 : decode cFs_multiplyLast 26 = .ok (.aload 6, 2) := by decide +kernel
theorem dFs_multiplyLast_28 : decode cFs_multiplyLast 28 = .ok (.aload_n 2, 1) := by decide +kernel
theorem dFs_multiplyLast_29 : decode cFs_multiplyLast 29 = .ok (.iload_n 3, 1) := by decide +kernel
theorem dFs_multiplyLast_30 : decode cFs_multiplyLast 30 = .ok (.iload 5, 2) := by decide +kernel
theorem dFs_multiplyLast_32 : decode cFs_multiplyLast 32 = .ok (.aload 4, 2) := by decide +kernel
theorem dFs_multiplyLast_34 : decode cFs_multiplyLast 34 = .ok (.invokevirtual 54, 3) := by decide +kernel
theorem dFs_multiplyLast_37 : decode cFs_multiplyLast 37 = .ok (.aload 6, 2) := by decide +kernel
theorem dFs_multiplyLast_39 : decode cFs_multiplyLast 39 = .ok (.getfield 45, 3) := by decide +kernel
theorem dFs_multiplyLast_42 : decode cFs_multiplyLast 42 = .ok (.astore 6, 2) := by decide +kernel
theorem dFs_multiplyLast_44 : decode cFs_multiplyLast 44 = .ok (.goto (-23), 3) := by decide +kernel
theorem dFs_multiplyLast_47 : decode cFs_multiplyLast 47 = .ok (.return_, 1) := by decide +kernel
abbrev cFs_productAt : ByteArray := prog_3_method_8_code
def yFs_productAt : MethodName := ⟨RFs, "productAt", "([I)J"⟩
theorem dFs_productAt_0 : decode cFs_productAt 0 = .ok (.lconst 1, 1) := by decide +kernel
theorem dFs_productAt_1 : decode cFs_productAt 1 = .ok (.lstore_n 2, 1) := by decide +kernel
theorem dFs_productAt_2 : decode cFs_productAt 2 = .ok (.iconst 0, 1) := by decide +kernel
theorem dFs_productAt_3 : decode cFs_productAt 3 = .ok (.istore 4, 2) := by decide +kernel
theorem dFs_productAt_5 : decode cFs_productAt 5 = .ok (.iload 4, 2) := by decide +kernel
theorem dFs_productAt_7 : decode cFs_productAt 7 = .ok (.aload_n 0, 1) := by decide +kernel
theorem dFs_productAt_8 : decode cFs_productAt 8 = .ok (.getfield 24, 3) := by decide +kernel
theorem dFs_productAt_11 : decode cFs_productAt 11 = .ok (.if_icmp .ge 36, 3) := by decide +kernel
theorem dFs_productAt_14 : decode cFs_productAt 14 = .ok (.aload_n 0, 1) := by decide +kernel
theorem dFs_productAt_15 : decode cFs_productAt 15 = .ok (.iload 4, 2) := by decide +kernel
theorem dFs_productAt_17 : decode cFs_productAt 17 = .ok (.invokevirtual 58, 3) := by decide +kernel
theorem dFs_productAt_20 : decode cFs_productAt 20 = .ok (.astore 5, 2) := by decide +kernel
theorem dFs_productAt_22 : decode cFs_productAt 22 = .ok (.lload_n 2, 1) := by decide +kernel
theorem dFs_productAt_23 : decode cFs_productAt 23 = .ok (.aload 5, 2) := by decide +kernel
theorem dFs_productAt_25 : decode cFs_productAt 25 = .ok (.ifnonnull 7, 3) := by decide +kernel
theorem dFs_productAt_28 : decode cFs_productAt 28 = .ok (.lconst 1, 1) := by decide +kernel
theorem dFs_productAt_29 : decode cFs_productAt 29 = .ok (.goto 10, 3) := by decide +kernel
theorem dFs_productAt_32 : decode cFs_productAt 32 = .ok (.aload 5, 2) := by decide +kernel
theorem dFs_productAt_34 : decode cFs_productAt 34 = .ok (.aload_n 1, 1) := by decide +kernel
theorem dFs_productAt_35 : decode cFs_productAt 35 = .ok (.invokevirtual 62, 3) := by decide +kernel
theorem dFs_productAt_38 : decode cFs_productAt 38 = .ok (.i2l, 1) := by decide +kernel
theorem dFs_productAt_39 : decode cFs_productAt 39 = .ok (.lmul, 1) := by decide +kernel
theorem dFs_productAt_40 : decode cFs_productAt 40 = .ok (.lstore_n 2, 1) := by decide +kernel
theorem dFs_productAt_41 : decode cFs_productAt 41 = .ok (.iinc 4 1, 3) := by decide +kernel
theorem dFs_productAt_44 : decode cFs_productAt 44 = .ok (.goto (-39), 3) := by decide +kernel
theorem dFs_productAt_47 : decode cFs_productAt 47 = .ok (.lload_n 2, 1) := by decide +kernel
theorem dFs_productAt_48 : decode cFs_productAt 48 = .ok (.lreturn, 1) := by decide +kernel
end
section
abbrev cGr_init : ByteArray := prog_4_method_1_code
def yGr_init : MethodName := ⟨RGr, "<init>", "()V"⟩
theorem dGr_init_0 : decode cGr_init 0 = .ok (.aload_n 0, 1) := by decide +kernel
theorem dGr_init_1 : decode cGr_init 1 = .ok (.invokespecial 3, 3) := by decide +kernel
theorem dGr_init_4 : decode cGr_init 4 = .ok (.aload_n 0, 1) := by decide +kernel
theorem dGr_init_5 : decode cGr_init 5 = .ok (.bipush 12, 2) := by decide +kernel
theorem dGr_init_7 : decode cGr_init 7 = .ok (.newarray .int, 2) := by decide +kernel
theorem dGr_init_9 : decode cGr_init 9 = .ok (.putfield 9, 3) := by decide +kernel
theorem dGr_init_12 : decode cGr_init 12 = .ok (.aload_n 0, 1) := by decide +kernel
theorem dGr_init_13 : decode cGr_init 13 = .ok (.bipush 12, 2) := by decide +kernel
theorem dGr_init_15 : decode cGr_init 15 = .ok (.newarray .int, 2) := by decide +kernel
theorem dGr_init_17 : decode cGr_init 17 = .ok (.putfield 15, 3) := by decide +kernel
theorem dGr_init_20 : decode cGr_init 20 = .ok (.aload_n 0, 1) := by decide +kernel
theorem dGr_init_21 : decode cGr_init 21 = .ok (.iconst 1, 1) := by decide +kernel
theorem dGr_init_22 : decode cGr_init 22 = .ok (.putfield 18, 3) := by decide +kernel
theorem dGr_init_25 : decode cGr_init 25 = .ok (.return_, 1) := by decide +kernel
abbrev cGr_addName : ByteArray := prog_4_method_2_code
def yGr_addName : MethodName := ⟨RGr, "addName", "(I)I"⟩
theorem dGr_addName_0 : decode cGr_addName 0 = .ok (.aload_n 0, 1) := by decide +kernel
theorem dGr_addName_1 : decode cGr_addName 1 = .ok (.getfield 22, 3) := by decide +kernel
theorem dGr_addName_4 : decode cGr_addName 4 = .ok (.istore_n 2, 1) := by decide +kernel
theorem dGr_addName_5 : decode cGr_addName 5 = .ok (.iload_n 2, 1) := by decide +kernel
theorem dGr_addName_6 : decode cGr_addName 6 = .ok (.bipush 12, 2) := by decide +kernel
theorem dGr_addName_8 : decode cGr_addName 8 = .ok (.if_icmp .ge 27, 3) := by decide +kernel
theorem dGr_addName_11 : decode cGr_addName 11 = .ok (.aload_n 0, 1) := by decide +kernel
theorem dGr_addName_12 : decode cGr_addName 12 = .ok (.getfield 9, 3) := by decide +kernel
theorem dGr_addName_15 : decode cGr_addName 15 = .ok (.iload_n 2, 1) := by decide +kernel
theorem dGr_addName_16 : decode cGr_addName 16 = .ok (.iload_n 1, 1) := by decide +kernel
theorem dGr_addName_17 : decode cGr_addName 17 = .ok (.iastore, 1) := by decide +kernel
theorem dGr_addName_18 : decode cGr_addName 18 = .ok (.aload_n 0, 1) := by decide +kernel
theorem dGr_addName_19 : decode cGr_addName 19 = .ok (.iload_n 2, 1) := by decide +kernel
theorem dGr_addName_20 : decode cGr_addName 20 = .ok (.iconst 1, 1) := by decide +kernel
theorem dGr_addName_21 : decode cGr_addName 21 = .ok (.iadd, 1) := by decide +kernel
theorem dGr_addName_22 : decode cGr_addName 22 = .ok (.putfield 22, 3) := by decide +kernel
theorem dGr_addName_25 : decode cGr_addName 25 = .ok (.aload_n 0, 1) := by decide +kernel
theorem dGr_addName_26 : decode cGr_addName 26 = .ok (.aload_n 0, 1) := by decide +kernel
theorem dGr_addName_27 : decode cGr_addName 27 = .ok (.getfield 18, 3) := by decide +kernel
theorem dGr_addName_30 : decode cGr_addName 30 = .ok (.iload_n 1, 1) := by decide +kernel
theorem dGr_addName_31 : decode cGr_addName 31 = .ok (.imul, 1) := by decide +kernel
theorem dGr_addName_32 : decode cGr_addName 32 = .ok (.putfield 18, 3) := by decide +kernel
theorem dGr_addName_35 : decode cGr_addName 35 = .ok (.iload_n 2, 1) := by decide +kernel
theorem dGr_addName_36 : decode cGr_addName 36 = .ok (.ireturn, 1) := by decide +kernel
abbrev cGr_join : ByteArray := prog_4_method_3_code
def yGr_join : MethodName := ⟨RGr, "join", "(I)V"⟩
theorem dGr_join_0 : decode cGr_join 0 = .ok (.iconst 0, 1) := by decide +kernel
theorem dGr_join_1 : decode cGr_join 1 = .ok (.istore_n 2, 1) := by decide +kernel
theorem dGr_join_2 : decode cGr_join 2 = .ok (.iload_n 2, 1) := by decide +kernel
theorem dGr_join_3 : decode cGr_join 3 = .ok (.aload_n 0, 1) := by decide +kernel
theorem dGr_join_4 : decode cGr_join 4 = .ok (.getfield 22, 3) := by decide +kernel
theorem dGr_join_7 : decode cGr_join 7 = .ok (.if_icmp .ge 33, 3) := by decide +kernel
theorem dGr_join_10 : decode cGr_join 10 = .ok (.iload_n 1, 1) := by decide +kernel
theorem dGr_join_11 : decode cGr_join 11 = .ok (.iconst 1, 1) := by decide +kernel
theorem dGr_join_12 : decode cGr_join 12 = .ok (.iload_n 2, 1) := by decide +kernel
theorem dGr_join_13 : decode cGr_join 13 = .ok (.ishl, 1) := by decide +kernel
theorem dGr_join_14 : decode cGr_join 14 = .ok (.iand, 1) := by decide +kernel
theorem dGr_join_15 : decode cGr_join 15 = .ok (.ifCond .eq 19, 3) := by decide +kernel
theorem dGr_join_18 : decode cGr_join 18 = .ok (.aload_n 0, 1) := by decide +kernel
theorem dGr_join_19 : decode cGr_join 19 = .ok (.getfield 15, 3) := by decide +kernel
theorem dGr_join_22 : decode cGr_join 22 = .ok (.iload_n 2, 1) := by decide +kernel
theorem dGr_join_23 : decode cGr_join 23 = .ok (.dup2, 1) := by decide +kernel
theorem dGr_join_24 : decode cGr_join 24 = .ok (.iaload, 1) := by decide +kernel
theorem dGr_join_25 : decode cGr_join 25 = .ok (.iload_n 1, 1) := by decide +kernel
theorem dGr_join_26 : decode cGr_join 26 = .ok (.iconst 1, 1) := by decide +kernel
theorem dGr_join_27 : decode cGr_join 27 = .ok (.iload_n 2, 1) := by decide +kernel
theorem dGr_join_28 : decode cGr_join 28 = .ok (.ishl, 1) := by decide +kernel
theorem dGr_join_29 : decode cGr_join 29 = .ok (.iconst (-1), 1) := by decide +kernel
theorem dGr_join_30 : decode cGr_join 30 = .ok (.ixor, 1) := by decide +kernel
theorem dGr_join_31 : decode cGr_join 31 = .ok (.iand, 1) := by decide +kernel
theorem dGr_join_32 : decode cGr_join 32 = .ok (.ior, 1) := by decide +kernel
theorem dGr_join_33 : decode cGr_join 33 = .ok (.iastore, 1) := by decide +kernel
theorem dGr_join_34 : decode cGr_join 34 = .ok (.iinc 2 1, 3) := by decide +kernel
theorem dGr_join_37 : decode cGr_join 37 = .ok (.goto (-35), 3) := by decide +kernel
theorem dGr_join_40 : decode cGr_join 40 = .ok (.return_, 1) := by decide +kernel
abbrev cGr_knows : ByteArray := prog_4_method_4_code
def yGr_knows : MethodName := ⟨RGr, "knows", "(I)Z"⟩
theorem dGr_knows_0 : decode cGr_knows 0 = .ok (.iload_n 1, 1) := by decide +kernel
theorem dGr_knows_1 : decode cGr_knows 1 = .ok (.ifCond .lt 15, 3) := by decide +kernel
theorem dGr_knows_4 : decode cGr_knows 4 = .ok (.iload_n 1, 1) := by decide +kernel
theorem dGr_knows_5 : decode cGr_knows 5 = .ok (.aload_n 0, 1) := by decide +kernel
theorem dGr_knows_6 : decode cGr_knows 6 = .ok (.getfield 22, 3) := by decide +kernel
theorem dGr_knows_9 : decode cGr_knows 9 = .ok (.if_icmp .ge 7, 3) := by decide +kernel
theorem dGr_knows_12 : decode cGr_knows 12 = .ok (.iconst 1, 1) := by decide +kernel
theorem dGr_knows_13 : decode cGr_knows 13 = .ok (.goto 4, 3) := by decide +kernel
theorem dGr_knows_16 : decode cGr_knows 16 = .ok (.iconst 0, 1) := by decide +kernel
theorem dGr_knows_17 : decode cGr_knows 17 = .ok (.ireturn, 1) := by decide +kernel
abbrev cGr_knowsAll : ByteArray := prog_4_method_5_code
def yGr_knowsAll : MethodName := ⟨RGr, "knowsAll", "(I)Z"⟩
theorem dGr_knowsAll_0 : decode cGr_knowsAll 0 = .ok (.iload_n 1, 1) := by decide +kernel
theorem dGr_knowsAll_1 : decode cGr_knowsAll 1 = .ok (.ifCond .lt 16, 3) := by decide +kernel
theorem dGr_knowsAll_4 : decode cGr_knowsAll 4 = .ok (.iload_n 1, 1) := by decide +kernel
theorem dGr_knowsAll_5 : decode cGr_knowsAll 5 = .ok (.aload_n 0, 1) := by decide +kernel
theorem dGr_knowsAll_6 : decode cGr_knowsAll 6 = .ok (.getfield 22, 3) := by decide +kernel
theorem dGr_knowsAll_9 : decode cGr_knowsAll 9 = .ok (.ishr, 1) := by decide +kernel
theorem dGr_knowsAll_10 : decode cGr_knowsAll 10 = .ok (.ifCond .ne 7, 3) := by decide +kernel
theorem dGr_knowsAll_13 : decode cGr_knowsAll 13 = .ok (.iconst 1, 1) := by decide +kernel
theorem dGr_knowsAll_14 : decode cGr_knowsAll 14 = .ok (.goto 4, 3) := by decide +kernel
theorem dGr_knowsAll_17 : decode cGr_knowsAll 17 = .ok (.iconst 0, 1) := by decide +kernel
theorem dGr_knowsAll_18 : decode cGr_knowsAll 18 = .ok (.ireturn, 1) := by decide +kernel
abbrev cGr_hasValue : ByteArray := prog_4_method_6_code
def yGr_hasValue : MethodName := ⟨RGr, "hasValue", "(II)Z"⟩
theorem dGr_hasValue_0 : decode cGr_hasValue 0 = .ok (.iload_n 2, 1) := by decide +kernel
theorem dGr_hasValue_1 : decode cGr_hasValue 1 = .ok (.ifCond .lt 17, 3) := by decide +kernel
theorem dGr_hasValue_4 : decode cGr_hasValue 4 = .ok (.iload_n 2, 1) := by decide +kernel
theorem dGr_hasValue_5 : decode cGr_hasValue 5 = .ok (.aload_n 0, 1) := by decide +kernel
theorem dGr_hasValue_6 : decode cGr_hasValue 6 = .ok (.getfield 9, 3) := by decide +kernel
theorem dGr_hasValue_9 : decode cGr_hasValue 9 = .ok (.iload_n 1, 1) := by decide +kernel
theorem dGr_hasValue_10 : decode cGr_hasValue 10 = .ok (.iaload, 1) := by decide +kernel
theorem dGr_hasValue_11 : decode cGr_hasValue 11 = .ok (.if_icmp .ge 7, 3) := by decide +kernel
theorem dGr_hasValue_14 : decode cGr_hasValue 14 = .ok (.iconst 1, 1) := by decide +kernel
theorem dGr_hasValue_15 : decode cGr_hasValue 15 = .ok (.goto 4, 3) := by decide +kernel
theorem dGr_hasValue_18 : decode cGr_hasValue 18 = .ok (.iconst 0, 1) := by decide +kernel
theorem dGr_hasValue_19 : decode cGr_hasValue 19 = .ok (.ireturn, 1) := by decide +kernel
abbrev cGr_everyName : ByteArray := prog_4_method_7_code
def yGr_everyName : MethodName := ⟨RGr, "everyName", "()I"⟩
theorem dGr_everyName_0 : decode cGr_everyName 0 = .ok (.iconst 1, 1) := by decide +kernel
theorem dGr_everyName_1 : decode cGr_everyName 1 = .ok (.aload_n 0, 1) := by decide +kernel
theorem dGr_everyName_2 : decode cGr_everyName 2 = .ok (.getfield 22, 3) := by decide +kernel
theorem dGr_everyName_5 : decode cGr_everyName 5 = .ok (.ishl, 1) := by decide +kernel
theorem dGr_everyName_6 : decode cGr_everyName 6 = .ok (.iconst 1, 1) := by decide +kernel
theorem dGr_everyName_7 : decode cGr_everyName 7 = .ok (.isub, 1) := by decide +kernel
theorem dGr_everyName_8 : decode cGr_everyName 8 = .ok (.ireturn, 1) := by decide +kernel
abbrev cGr_cellsOf : ByteArray := prog_4_method_8_code
def yGr_cellsOf : MethodName := ⟨RGr, "cellsOf", "(I)I"⟩
theorem dGr_cellsOf_0 : decode cGr_cellsOf 0 = .ok (.iconst 1, 1) := by decide +kernel
theorem dGr_cellsOf_1 : decode cGr_cellsOf 1 = .ok (.istore_n 2, 1) := by decide +kernel
theorem dGr_cellsOf_2 : decode cGr_cellsOf 2 = .ok (.iconst 0, 1) := by decide +kernel
theorem dGr_cellsOf_3 : decode cGr_cellsOf 3 = .ok (.istore_n 3, 1) := by decide +kernel
theorem dGr_cellsOf_4 : decode cGr_cellsOf 4 = .ok (.iload_n 3, 1) := by decide +kernel
theorem dGr_cellsOf_5 : decode cGr_cellsOf 5 = .ok (.aload_n 0, 1) := by decide +kernel
theorem dGr_cellsOf_6 : decode cGr_cellsOf 6 = .ok (.getfield 22, 3) := by decide +kernel
theorem dGr_cellsOf_9 : decode cGr_cellsOf 9 = .ok (.if_icmp .ge 26, 3) := by decide +kernel
theorem dGr_cellsOf_12 : decode cGr_cellsOf 12 = .ok (.iload_n 1, 1) := by decide +kernel
theorem dGr_cellsOf_13 : decode cGr_cellsOf 13 = .ok (.iconst 1, 1) := by decide +kernel
theorem dGr_cellsOf_14 : decode cGr_cellsOf 14 = .ok (.iload_n 3, 1) := by decide +kernel
theorem dGr_cellsOf_15 : decode cGr_cellsOf 15 = .ok (.ishl, 1) := by decide +kernel
theorem dGr_cellsOf_16 : decode cGr_cellsOf 16 = .ok (.iand, 1) := by decide +kernel
theorem dGr_cellsOf_17 : decode cGr_cellsOf 17 = .ok (.ifCond .eq 12, 3) := by decide +kernel
theorem dGr_cellsOf_20 : decode cGr_cellsOf 20 = .ok (.iload_n 2, 1) := by decide +kernel
theorem dGr_cellsOf_21 : decode cGr_cellsOf 21 = .ok (.aload_n 0, 1) := by decide +kernel
theorem dGr_cellsOf_22 : decode cGr_cellsOf 22 = .ok (.getfield 9, 3) := by decide +kernel
theorem dGr_cellsOf_25 : decode cGr_cellsOf 25 = .ok (.iload_n 3, 1) := by decide +kernel
theorem dGr_cellsOf_26 : decode cGr_cellsOf 26 = .ok (.iaload, 1) := by decide +kernel
theorem dGr_cellsOf_27 : decode cGr_cellsOf 27 = .ok (.imul, 1) := by decide +kernel
theorem dGr_cellsOf_28 : decode cGr_cellsOf 28 = .ok (.istore_n 2, 1) := by decide +kernel
theorem dGr_cellsOf_29 : decode cGr_cellsOf 29 = .ok (.iinc 3 1, 3) := by decide +kernel
theorem dGr_cellsOf_32 : decode cGr_cellsOf 32 = .ok (.goto (-28), 3) := by decide +kernel
theorem dGr_cellsOf_35 : decode cGr_cellsOf 35 = .ok (.iload_n 2, 1) := by decide +kernel
theorem dGr_cellsOf_36 : decode cGr_cellsOf 36 = .ok (.ireturn, 1) := by decide +kernel
abbrev cGr_pairs : ByteArray := prog_4_method_9_code
def yGr_pairs : MethodName := ⟨RGr, "pairs", "()I"⟩
theorem dGr_pairs_0 : decode cGr_pairs 0 = .ok (.iconst 0, 1) := by decide +kernel
theorem dGr_pairs_1 : decode cGr_pairs 1 = .ok (.istore_n 1, 1) := by decide +kernel
theorem dGr_pairs_2 : decode cGr_pairs 2 = .ok (.iconst 0, 1) := by decide +kernel
theorem dGr_pairs_3 : decode cGr_pairs 3 = .ok (.istore_n 2, 1) := by decide +kernel
theorem dGr_pairs_4 : decode cGr_pairs 4 = .ok (.iload_n 2, 1) := by decide +kernel
theorem dGr_pairs_5 : decode cGr_pairs 5 = .ok (.aload_n 0, 1) := by decide +kernel
theorem dGr_pairs_6 : decode cGr_pairs 6 = .ok (.getfield 22, 3) := by decide +kernel
theorem dGr_pairs_9 : decode cGr_pairs 9 = .ok (.if_icmp .ge 21, 3) := by decide +kernel
theorem dGr_pairs_12 : decode cGr_pairs 12 = .ok (.iload_n 1, 1) := by decide +kernel
theorem dGr_pairs_13 : decode cGr_pairs 13 = .ok (.aload_n 0, 1) := by decide +kernel
theorem dGr_pairs_14 : decode cGr_pairs 14 = .ok (.getfield 15, 3) := by decide +kernel
theorem dGr_pairs_17 : decode cGr_pairs 17 = .ok (.iload_n 2, 1) := by decide +kernel
theorem dGr_pairs_18 : decode cGr_pairs 18 = .ok (.iaload, 1) := by decide +kernel
theorem dGr_pairs_19 : decode cGr_pairs 19 = .ok (.invokestatic 25, 3) := by decide +kernel
theorem dGr_pairs_22 : decode cGr_pairs 22 = .ok (.iadd, 1) := by decide +kernel
theorem dGr_pairs_23 : decode cGr_pairs 23 = .ok (.istore_n 1, 1) := by decide +kernel
theorem dGr_pairs_24 : decode cGr_pairs 24 = .ok (.iinc 2 1, 3) := by decide +kernel
theorem dGr_pairs_27 : decode cGr_pairs 27 = .ok (.goto (-23), 3) := by decide +kernel
theorem dGr_pairs_30 : decode cGr_pairs 30 = .ok (.iload_n 1, 1) := by decide +kernel
theorem dGr_pairs_31 : decode cGr_pairs 31 = .ok (.iconst 2, 1) := by decide +kernel
theorem dGr_pairs_32 : decode cGr_pairs 32 = .ok (.idiv, 1) := by decide +kernel
theorem dGr_pairs_33 : decode cGr_pairs 33 = .ok (.ireturn, 1) := by decide +kernel
abbrev cGr_reached : ByteArray := prog_4_method_10_code
def yGr_reached : MethodName := ⟨RGr, "reached", "(II)I"⟩
theorem dGr_reached_0 : decode cGr_reached 0 = .ok (.aload_n 0, 1) := by decide +kernel
theorem dGr_reached_1 : decode cGr_reached 1 = .ok (.getfield 15, 3) := by decide +kernel
theorem dGr_reached_4 : decode cGr_reached 4 = .ok (.iload_n 1, 1) := by decide +kernel
theorem dGr_reached_5 : decode cGr_reached 5 = .ok (.iaload, 1) := by decide +kernel
theorem dGr_reached_6 : decode cGr_reached 6 = .ok (.iconst 1, 1) := by decide +kernel
theorem dGr_reached_7 : decode cGr_reached 7 = .ok (.iload_n 1, 1) := by decide +kernel
theorem dGr_reached_8 : decode cGr_reached 8 = .ok (.ishl, 1) := by decide +kernel
theorem dGr_reached_9 : decode cGr_reached 9 = .ok (.ior, 1) := by decide +kernel
theorem dGr_reached_10 : decode cGr_reached 10 = .ok (.istore_n 3, 1) := by decide +kernel
theorem dGr_reached_11 : decode cGr_reached 11 = .ok (.iconst 0, 1) := by decide +kernel
theorem dGr_reached_12 : decode cGr_reached 12 = .ok (.istore 4, 2) := by decide +kernel
theorem dGr_reached_14 : decode cGr_reached 14 = .ok (.iconst 0, 1) := by decide +kernel
theorem dGr_reached_15 : decode cGr_reached 15 = .ok (.istore 5, 2) := by decide +kernel
theorem dGr_reached_17 : decode cGr_reached 17 = .ok (.iload 5, 2) := by decide +kernel
theorem dGr_reached_19 : decode cGr_reached 19 = .ok (.aload_n 0, 1) := by decide +kernel
theorem dGr_reached_20 : decode cGr_reached 20 = .ok (.getfield 22, 3) := by decide +kernel
theorem dGr_reached_23 : decode cGr_reached 23 = .ok (.if_icmp .ge 59, 3) := by decide +kernel
theorem dGr_reached_26 : decode cGr_reached 26 = .ok (.iload_n 3, 1) := by decide +kernel
theorem dGr_reached_27 : decode cGr_reached 27 = .ok (.iload_n 2, 1) := by decide +kernel
theorem dGr_reached_28 : decode cGr_reached 28 = .ok (.iand, 1) := by decide +kernel
theorem dGr_reached_29 : decode cGr_reached 29 = .ok (.iload 4, 2) := by decide +kernel
theorem dGr_reached_31 : decode cGr_reached 31 = .ok (.iconst (-1), 1) := by decide +kernel
theorem dGr_reached_32 : decode cGr_reached 32 = .ok (.ixor, 1) := by decide +kernel
theorem dGr_reached_33 : decode cGr_reached 33 = .ok (.iand, 1) := by decide +kernel
theorem dGr_reached_34 : decode cGr_reached 34 = .ok (.istore 6, 2) := by decide +kernel
theorem dGr_reached_36 : decode cGr_reached 36 = .ok (.iload 6, 2) := by decide +kernel
theorem dGr_reached_38 : decode cGr_reached 38 = .ok (.ifCond .ne 6, 3) := by decide +kernel
theorem dGr_reached_41 : decode cGr_reached 41 = .ok (.goto 41, 3) := by decide +kernel
theorem dGr_reached_44 : decode cGr_reached 44 = .ok (.iload 6, 2) := by decide +kernel
theorem dGr_reached_46 : decode cGr_reached 46 = .ok (.iload 6, 2) := by decide +kernel
theorem dGr_reached_48 : decode cGr_reached 48 = .ok (.ineg, 1) := by decide +kernel
theorem dGr_reached_49 : decode cGr_reached 49 = .ok (.iand, 1) := by decide +kernel
theorem dGr_reached_50 : decode cGr_reached 50 = .ok (.iconst 1, 1) := by decide +kernel
theorem dGr_reached_51 : decode cGr_reached 51 = .ok (.isub, 1) := by decide +kernel
theorem dGr_reached_52 : decode cGr_reached 52 = .ok (.invokestatic 25, 3) := by decide +kernel
theorem dGr_reached_55 : decode cGr_reached 55 = .ok (.istore 7, 2) := by decide +kernel
theorem dGr_reached_57 : decode cGr_reached 57 = .ok (.iload 4, 2) := by decide +kernel
theorem dGr_reached_59 : decode cGr_reached 59 = .ok (.iconst 1, 1) := by decide +kernel
theorem dGr_reached_60 : decode cGr_reached 60 = .ok (.iload 7, 2) := by decide +kernel
theorem dGr_reached_62 : decode cGr_reached 62 = .ok (.ishl, 1) := by decide +kernel
theorem dGr_reached_63 : decode cGr_reached 63 = .ok (.ior, 1) := by decide +kernel
theorem dGr_reached_64 : decode cGr_reached 64 = .ok (.istore 4, 2) := by decide +kernel
theorem dGr_reached_66 : decode cGr_reached 66 = .ok (.iload_n 3, 1) := by decide +kernel
theorem dGr_reached_67 : decode cGr_reached 67 = .ok (.aload_n 0, 1) := by decide +kernel
theorem dGr_reached_68 : decode cGr_reached 68 = .ok (.getfield 15, 3) := by decide +kernel
theorem dGr_reached_71 : decode cGr_reached 71 = .ok (.iload 7, 2) := by decide +kernel
theorem dGr_reached_73 : decode cGr_reached 73 = .ok (.iaload, 1) := by decide +kernel
theorem dGr_reached_74 : decode cGr_reached 74 = .ok (.ior, 1) := by decide +kernel
theorem dGr_reached_75 : decode cGr_reached 75 = .ok (.istore_n 3, 1) := by decide +kernel
theorem dGr_reached_76 : decode cGr_reached 76 = .ok (.iinc 5 1, 3) := by decide +kernel
theorem dGr_reached_79 : decode cGr_reached 79 = .ok (.goto (-62), 3) := by decide +kernel
theorem dGr_reached_82 : decode cGr_reached 82 = .ok (.iload_n 3, 1) := by decide +kernel
theorem dGr_reached_83 : decode cGr_reached 83 = .ok (.ireturn, 1) := by decide +kernel
abbrev cGr_bagOf : ByteArray := prog_4_method_11_code
def yGr_bagOf : MethodName := ⟨RGr, "bagOf", "(II)I"⟩
theorem dGr_bagOf_0 : decode cGr_bagOf 0 = .ok (.aload_n 0, 1) := by decide +kernel
theorem dGr_bagOf_1 : decode cGr_bagOf 1 = .ok (.iload_n 1, 1) := by decide +kernel
theorem dGr_bagOf_2 : decode cGr_bagOf 2 = .ok (.iload_n 2, 1) := by decide +kernel
theorem dGr_bagOf_3 : decode cGr_bagOf 3 = .ok (.invokevirtual 31, 3) := by decide +kernel
theorem dGr_bagOf_6 : decode cGr_bagOf 6 = .ok (.iload_n 2, 1) := by decide +kernel
theorem dGr_bagOf_7 : decode cGr_bagOf 7 = .ok (.iconst (-1), 1) := by decide +kernel
theorem dGr_bagOf_8 : decode cGr_bagOf 8 = .ok (.ixor, 1) := by decide +kernel
theorem dGr_bagOf_9 : decode cGr_bagOf 9 = .ok (.iand, 1) := by decide +kernel
theorem dGr_bagOf_10 : decode cGr_bagOf 10 = .ok (.ireturn, 1) := by decide +kernel
abbrev cGr_fillOf : ByteArray := prog_4_method_12_code
def yGr_fillOf : MethodName := ⟨RGr, "fillOf", "(II)I"⟩
theorem dGr_fillOf_0 : decode cGr_fillOf 0 = .ok (.iconst 0, 1) := by decide +kernel
theorem dGr_fillOf_1 : decode cGr_fillOf 1 = .ok (.istore_n 3, 1) := by decide +kernel
theorem dGr_fillOf_2 : decode cGr_fillOf 2 = .ok (.iconst 0, 1) := by decide +kernel
theorem dGr_fillOf_3 : decode cGr_fillOf 3 = .ok (.istore 4, 2) := by decide +kernel
theorem dGr_fillOf_5 : decode cGr_fillOf 5 = .ok (.iload 4, 2) := by decide +kernel
theorem dGr_fillOf_7 : decode cGr_fillOf 7 = .ok (.aload_n 0, 1) := by decide +kernel
theorem dGr_fillOf_8 : decode cGr_fillOf 8 = .ok (.getfield 22, 3) := by decide +kernel
theorem dGr_fillOf_11 : decode cGr_fillOf 11 = .ok (.if_icmp .ge 35, 3) := by decide +kernel
theorem dGr_fillOf_14 : decode cGr_fillOf 14 = .ok (.iload_n 1, 1) := by decide +kernel
theorem dGr_fillOf_15 : decode cGr_fillOf 15 = .ok (.iconst 1, 1) := by decide +kernel
theorem dGr_fillOf_16 : decode cGr_fillOf 16 = .ok (.iload 4, 2) := by decide +kernel
theorem dGr_fillOf_18 : decode cGr_fillOf 18 = .ok (.ishl, 1) := by decide +kernel
theorem dGr_fillOf_19 : decode cGr_fillOf 19 = .ok (.iand, 1) := by decide +kernel
theorem dGr_fillOf_20 : decode cGr_fillOf 20 = .ok (.ifCond .eq 20, 3) := by decide +kernel
theorem dGr_fillOf_23 : decode cGr_fillOf 23 = .ok (.iload_n 3, 1) := by decide +kernel
theorem dGr_fillOf_24 : decode cGr_fillOf 24 = .ok (.iload_n 1, 1) := by decide +kernel
theorem dGr_fillOf_25 : decode cGr_fillOf 25 = .ok (.aload_n 0, 1) := by decide +kernel
theorem dGr_fillOf_26 : decode cGr_fillOf 26 = .ok (.iload 4, 2) := by decide +kernel
theorem dGr_fillOf_28 : decode cGr_fillOf 28 = .ok (.iload_n 2, 1) := by decide +kernel
theorem dGr_fillOf_29 : decode cGr_fillOf 29 = .ok (.invokevirtual 31, 3) := by decide +kernel
theorem dGr_fillOf_32 : decode cGr_fillOf 32 = .ok (.iconst (-1), 1) := by decide +kernel
theorem dGr_fillOf_33 : decode cGr_fillOf 33 = .ok (.ixor, 1) := by decide +kernel
theorem dGr_fillOf_34 : decode cGr_fillOf 34 = .ok (.iand, 1) := by decide +kernel
theorem dGr_fillOf_35 : decode cGr_fillOf 35 = .ok (.invokestatic 25, 3) := by decide +kernel
theorem dGr_fillOf_38 : decode cGr_fillOf 38 = .ok (.iadd, 1) := by decide +kernel
theorem dGr_fillOf_39 : decode cGr_fillOf 39 = .ok (.istore_n 3, 1) := by decide +kernel
theorem dGr_fillOf_40 : decode cGr_fillOf 40 = .ok (.iinc 4 1, 3) := by decide +kernel
theorem dGr_fillOf_43 : decode cGr_fillOf 43 = .ok (.goto (-38), 3) := by decide +kernel
theorem dGr_fillOf_46 : decode cGr_fillOf 46 = .ok (.iload_n 3, 1) := by decide +kernel
theorem dGr_fillOf_47 : decode cGr_fillOf 47 = .ok (.iconst 2, 1) := by decide +kernel
theorem dGr_fillOf_48 : decode cGr_fillOf 48 = .ok (.idiv, 1) := by decide +kernel
theorem dGr_fillOf_49 : decode cGr_fillOf 49 = .ok (.ireturn, 1) := by decide +kernel
abbrev cGr_valueIn : ByteArray := prog_4_method_13_code
def yGr_valueIn : MethodName := ⟨RGr, "valueIn", "(II)I"⟩
theorem dGr_valueIn_0 : decode cGr_valueIn 0 = .ok (.iload_n 1, 1) := by decide +kernel
theorem dGr_valueIn_1 : decode cGr_valueIn 1 = .ok (.istore_n 3, 1) := by decide +kernel
theorem dGr_valueIn_2 : decode cGr_valueIn 2 = .ok (.aload_n 0, 1) := by decide +kernel
theorem dGr_valueIn_3 : decode cGr_valueIn 3 = .ok (.getfield 22, 3) := by decide +kernel
theorem dGr_valueIn_6 : decode cGr_valueIn 6 = .ok (.iconst 1, 1) := by decide +kernel
theorem dGr_valueIn_7 : decode cGr_valueIn 7 = .ok (.isub, 1) := by decide +kernel
theorem dGr_valueIn_8 : decode cGr_valueIn 8 = .ok (.istore 4, 2) := by decide +kernel
theorem dGr_valueIn_10 : decode cGr_valueIn 10 = .ok (.iload 4, 2) := by decide +kernel
theorem dGr_valueIn_12 : decode cGr_valueIn 12 = .ok (.iload_n 2, 1) := by decide +kernel
theorem dGr_valueIn_13 : decode cGr_valueIn 13 = .ok (.if_icmp .le 21, 3) := by decide +kernel
theorem dGr_valueIn_16 : decode cGr_valueIn 16 = .ok (.iload_n 3, 1) := by decide +kernel
theorem dGr_valueIn_17 : decode cGr_valueIn 17 = .ok (.aload_n 0, 1) := by decide +kernel
theorem dGr_valueIn_18 : decode cGr_valueIn 18 = .ok (.getfield 9, 3) := by decide +kernel
theorem dGr_valueIn_21 : decode cGr_valueIn 21 = .ok (.iload 4, 2) := by decide +kernel
theorem dGr_valueIn_23 : decode cGr_valueIn 23 = .ok (.iaload, 1) := by decide +kernel
theorem dGr_valueIn_24 : decode cGr_valueIn 24 = .ok (.invokestatic 35, 3) := by decide +kernel
theorem dGr_valueIn_27 : decode cGr_valueIn 27 = .ok (.istore_n 3, 1) := by decide +kernel
theorem dGr_valueIn_28 : decode cGr_valueIn 28 = .ok (.iinc 4 (-1), 3) := by decide +kernel
theorem dGr_valueIn_31 : decode cGr_valueIn 31 = .ok (.goto (-21), 3) := by decide +kernel
theorem dGr_valueIn_34 : decode cGr_valueIn 34 = .ok (.iload_n 3, 1) := by decide +kernel
theorem dGr_valueIn_35 : decode cGr_valueIn 35 = .ok (.aload_n 0, 1) := by decide +kernel
theorem dGr_valueIn_36 : decode cGr_valueIn 36 = .ok (.getfield 9, 3) := by decide +kernel
theorem dGr_valueIn_39 : decode cGr_valueIn 39 = .ok (.iload_n 2, 1) := by decide +kernel
theorem dGr_valueIn_40 : decode cGr_valueIn 40 = .ok (.iaload, 1) := by decide +kernel
theorem dGr_valueIn_41 : decode cGr_valueIn 41 = .ok (.invokestatic 38, 3) := by decide +kernel
theorem dGr_valueIn_44 : decode cGr_valueIn 44 = .ok (.ireturn, 1) := by decide +kernel
abbrev cGr_quotient : ByteArray := prog_4_method_14_code
def yGr_quotient : MethodName := ⟨RGr, "quotient", "(II)I"⟩
theorem dGr_quotient_0 : decode cGr_quotient 0 = .ok (.iload_n 1, 1) := by decide +kernel
theorem dGr_quotient_1 : decode cGr_quotient 1 = .ok (.ifCond .le 9, 3) := by decide +kernel
theorem dGr_quotient_4 : decode cGr_quotient 4 = .ok (.iload_n 0, 1) := by decide +kernel
theorem dGr_quotient_5 : decode cGr_quotient 5 = .ok (.iload_n 1, 1) := by decide +kernel
theorem dGr_quotient_6 : decode cGr_quotient 6 = .ok (.idiv, 1) := by decide +kernel
theorem dGr_quotient_7 : decode cGr_quotient 7 = .ok (.goto 4, 3) := by decide +kernel
theorem dGr_quotient_10 : decode cGr_quotient 10 = .ok (.iconst 0, 1) := by decide +kernel
theorem dGr_quotient_11 : decode cGr_quotient 11 = .ok (.ireturn, 1) := by decide +kernel
abbrev cGr_remainder : ByteArray := prog_4_method_15_code
def yGr_remainder : MethodName := ⟨RGr, "remainder", "(II)I"⟩
theorem dGr_remainder_0 : decode cGr_remainder 0 = .ok (.iload_n 1, 1) := by decide +kernel
theorem dGr_remainder_1 : decode cGr_remainder 1 = .ok (.ifCond .le 9, 3) := by decide +kernel
theorem dGr_remainder_4 : decode cGr_remainder 4 = .ok (.iload_n 0, 1) := by decide +kernel
theorem dGr_remainder_5 : decode cGr_remainder 5 = .ok (.iload_n 1, 1) := by decide +kernel
theorem dGr_remainder_6 : decode cGr_remainder 6 = .ok (.irem, 1) := by decide +kernel
theorem dGr_remainder_7 : decode cGr_remainder 7 = .ok (.goto 4, 3) := by decide +kernel
theorem dGr_remainder_10 : decode cGr_remainder 10 = .ok (.iconst 0, 1) := by decide +kernel
theorem dGr_remainder_11 : decode cGr_remainder 11 = .ok (.ireturn, 1) := by decide +kernel
end
section
abbrev cSe_init : ByteArray := prog_5_method_1_code
def ySe_init : MethodName := ⟨RSe, "<init>", "(LTableOrders$Graph;)V"⟩
theorem dSe_init_0 : decode cSe_init 0 = .ok (.aload_n 0, 1) := by decide +kernel
theorem dSe_init_1 : decode cSe_init 1 = .ok (.invokespecial 3, 3) := by decide +kernel
theorem dSe_init_4 : decode cSe_init 4 = .ok (.aload_n 0, 1) := by decide +kernel
theorem dSe_init_5 : decode cSe_init 5 = .ok (.bipush 12, 2) := by decide +kernel
theorem dSe_init_7 : decode cSe_init 7 = .ok (.newarray .int, 2) := by decide +kernel
theorem dSe_init_9 : decode cSe_init 9 = .ok (.putfield 9, 3) := by decide +kernel
theorem dSe_init_12 : decode cSe_init 12 = .ok (.aload_n 0, 1) := by decide +kernel
theorem dSe_init_13 : decode cSe_init 13 = .ok (.iconst 0, 1) := by decide +kernel
theorem dSe_init_14 : decode cSe_init 14 = .ok (.newarray .int, 2) := by decide +kernel
theorem dSe_init_16 : decode cSe_init 16 = .ok (.putfield 15, 3) := by decide +kernel
theorem dSe_init_19 : decode cSe_init 19 = .ok (.aload_n 0, 1) := by decide +kernel
theorem dSe_init_20 : decode cSe_init 20 = .ok (.iconst 0, 1) := by decide +kernel
theorem dSe_init_21 : decode cSe_init 21 = .ok (.newarray .int, 2) := by decide +kernel
theorem dSe_init_23 : decode cSe_init 23 = .ok (.putfield 18, 3) := by decide +kernel
theorem dSe_init_26 : decode cSe_init 26 = .ok (.aload_n 0, 1) := by decide +kernel
theorem dSe_init_27 : decode cSe_init 27 = .ok (.aload_n 1, 1) := by decide +kernel
theorem dSe_init_28 : decode cSe_init 28 = .ok (.putfield 21, 3) := by decide +kernel
theorem dSe_init_31 : decode cSe_init 31 = .ok (.return_, 1) := by decide +kernel
abbrev cSe_forget : ByteArray := prog_5_method_2_code
def ySe_forget : MethodName := ⟨RSe, "forget", "()V"⟩
theorem dSe_forget_0 : decode cSe_forget 0 = .ok (.aload_n 0, 1) := by decide +kernel
theorem dSe_forget_1 : decode cSe_forget 1 = .ok (.iconst 0, 1) := by decide +kernel
theorem dSe_forget_2 : decode cSe_forget 2 = .ok (.putfield 25, 3) := by decide +kernel
theorem dSe_forget_5 : decode cSe_forget 5 = .ok (.return_, 1) := by decide +kernel
abbrev cSe_find : ByteArray := prog_5_method_3_code
def ySe_find : MethodName := ⟨RSe, "find", "()V"⟩
theorem dSe_find_0 : decode cSe_find 0 = .ok (.aload_n 0, 1) := by decide +kernel
theorem dSe_find_1 : decode cSe_find 1 = .ok (.getfield 25, 3) := by decide +kernel
theorem dSe_find_4 : decode cSe_find 4 = .ok (.ifCond .ne 27, 3) := by decide +kernel
theorem dSe_find_7 : decode cSe_find 7 = .ok (.aload_n 0, 1) := by decide +kernel
theorem dSe_find_8 : decode cSe_find 8 = .ok (.invokevirtual 29, 3) := by decide +kernel
theorem dSe_find_11 : decode cSe_find 11 = .ok (.aload_n 0, 1) := by decide +kernel
theorem dSe_find_12 : decode cSe_find 12 = .ok (.invokevirtual 32, 3) := by decide +kernel
theorem dSe_find_15 : decode cSe_find 15 = .ok (.istore_n 1, 1) := by decide +kernel
theorem dSe_find_16 : decode cSe_find 16 = .ok (.aload_n 0, 1) := by decide +kernel
theorem dSe_find_17 : decode cSe_find 17 = .ok (.iload_n 1, 1) := by decide +kernel
theorem dSe_find_18 : decode cSe_find 18 = .ok (.invokevirtual 36, 3) := by decide +kernel
theorem dSe_find_21 : decode cSe_find 21 = .ok (.aload_n 0, 1) := by decide +kernel
theorem dSe_find_22 : decode cSe_find 22 = .ok (.iload_n 1, 1) := by decide +kernel
theorem dSe_find_23 : decode cSe_find 23 = .ok (.invokevirtual 40, 3) := by decide +kernel
theorem dSe_find_26 : decode cSe_find 26 = .ok (.aload_n 0, 1) := by decide +kernel
theorem dSe_find_27 : decode cSe_find 27 = .ok (.iconst 1, 1) := by decide +kernel
theorem dSe_find_28 : decode cSe_find 28 = .ok (.putfield 25, 3) := by decide +kernel
theorem dSe_find_31 : decode cSe_find 31 = .ok (.return_, 1) := by decide +kernel
abbrev cSe_prepareRows : ByteArray := prog_5_method_4_code
def ySe_prepareRows : MethodName := ⟨RSe, "prepareRows", "()V"⟩
theorem dSe_prepareRows_0 : decode cSe_prepareRows 0 = .ok (.aload_n 0, 1) := by decide +kernel
theorem dSe_prepareRows_1 : decode cSe_prepareRows 1 = .ok (.getfield 21, 3) := by decide +kernel
theorem dSe_prepareRows_4 : decode cSe_prepareRows 4 = .ok (.invokevirtual 43, 3) := by decide +kernel
theorem dSe_prepareRows_7 : decode cSe_prepareRows 7 = .ok (.iconst 1, 1) := by decide +kernel
theorem dSe_prepareRows_8 : decode cSe_prepareRows 8 = .ok (.iadd, 1) := by decide +kernel
theorem dSe_prepareRows_9 : decode cSe_prepareRows 9 = .ok (.istore_n 1, 1) := by decide +kernel
theorem dSe_prepareRows_10 : decode cSe_prepareRows 10 = .ok (.aload_n 0, 1) := by decide +kernel
theorem dSe_prepareRows_11 : decode cSe_prepareRows 11 = .ok (.getfield 15, 3) := by decide +kernel
theorem dSe_prepareRows_14 : decode cSe_prepareRows 14 = .ok (.arraylength, 1) := by decide +kernel
theorem dSe_prepareRows_15 : decode cSe_prepareRows 15 = .ok (.iload_n 1, 1) := by decide +kernel
theorem dSe_prepareRows_16 : decode cSe_prepareRows 16 = .ok (.if_icmp .eq 44, 3) := by decide +kernel
theorem dSe_prepareRows_19 : decode cSe_prepareRows 19 = .ok (.aload_n 0, 1) := by decide +kernel
theorem dSe_prepareRows_20 : decode cSe_prepareRows 20 = .ok (.iload_n 1, 1) := by decide +kernel
theorem dSe_prepareRows_21 : decode cSe_prepareRows 21 = .ok (.newarray .int, 2) := by decide +kernel
theorem dSe_prepareRows_23 : decode cSe_prepareRows 23 = .ok (.putfield 15, 3) := by decide +kernel
theorem dSe_prepareRows_26 : decode cSe_prepareRows 26 = .ok (.aload_n 0, 1) := by decide +kernel
theorem dSe_prepareRows_27 : decode cSe_prepareRows 27 = .ok (.iload_n 1, 1) := by decide +kernel
theorem dSe_prepareRows_28 : decode cSe_prepareRows 28 = .ok (.newarray .int, 2) := by decide +kernel
theorem dSe_prepareRows_30 : decode cSe_prepareRows 30 = .ok (.putfield 18, 3) := by decide +kernel
theorem dSe_prepareRows_33 : decode cSe_prepareRows 33 = .ok (.iconst 0, 1) := by decide +kernel
theorem dSe_prepareRows_34 : decode cSe_prepareRows 34 = .ok (.istore_n 2, 1) := by decide +kernel
theorem dSe_prepareRows_35 : decode cSe_prepareRows 35 = .ok (.iload_n 2, 1) := by decide +kernel
theorem dSe_prepareRows_36 : decode cSe_prepareRows 36 = .ok (.iload_n 1, 1) := by decide +kernel
theorem dSe_prepareRows_37 : decode cSe_prepareRows 37 = .ok (.if_icmp .ge 23, 3) := by decide +kernel
theorem dSe_prepareRows_40 : decode cSe_prepareRows 40 = .ok (.aload_n 0, 1) := by decide +kernel
theorem dSe_prepareRows_41 : decode cSe_prepareRows 41 = .ok (.getfield 15, 3) := by decide +kernel
theorem dSe_prepareRows_44 : decode cSe_prepareRows 44 = .ok (.iload_n 2, 1) := by decide +kernel
theorem dSe_prepareRows_45 : decode cSe_prepareRows 45 = .ok (.aload_n 0, 1) := by decide +kernel
theorem dSe_prepareRows_46 : decode cSe_prepareRows 46 = .ok (.getfield 21, 3) := by decide +kernel
theorem dSe_prepareRows_49 : decode cSe_prepareRows 49 = .ok (.iload_n 2, 1) := by decide +kernel
theorem dSe_prepareRows_50 : decode cSe_prepareRows 50 = .ok (.invokevirtual 48, 3) := by decide +kernel
theorem dSe_prepareRows_53 : decode cSe_prepareRows 53 = .ok (.iastore, 1) := by decide +kernel
theorem dSe_prepareRows_54 : decode cSe_prepareRows 54 = .ok (.iinc 2 1, 3) := by decide +kernel
theorem dSe_prepareRows_57 : decode cSe_prepareRows 57 = .ok (.goto (-22), 3) := by decide +kernel
theorem dSe_prepareRows_60 : decode cSe_prepareRows 60 = .ok (.return_, 1) := by decide +kernel
abbrev cSe_leastWidth : ByteArray := prog_5_method_5_code
def ySe_leastWidth : MethodName := ⟨RSe, "leastWidth", "()I"⟩
theorem dSe_leastWidth_0 : decode cSe_leastWidth 0 = .ok (.aload_n 0, 1) := by decide +kernel
theorem dSe_leastWidth_1 : decode cSe_leastWidth 1 = .ok (.getfield 21, 3) := by decide +kernel
theorem dSe_leastWidth_4 : decode cSe_leastWidth 4 = .ok (.invokevirtual 43, 3) := by decide +kernel
theorem dSe_leastWidth_7 : decode cSe_leastWidth 7 = .ok (.istore_n 1, 1) := by decide +kernel
theorem dSe_leastWidth_8 : decode cSe_leastWidth 8 = .ok (.aload_n 0, 1) := by decide +kernel
theorem dSe_leastWidth_9 : decode cSe_leastWidth 9 = .ok (.getfield 18, 3) := by decide +kernel
theorem dSe_leastWidth_12 : decode cSe_leastWidth 12 = .ok (.iload_n 1, 1) := by decide +kernel
theorem dSe_leastWidth_13 : decode cSe_leastWidth 13 = .ok (.iconst (-1), 1) := by decide +kernel
theorem dSe_leastWidth_14 : decode cSe_leastWidth 14 = .ok (.iastore, 1) := by decide +kernel
theorem dSe_leastWidth_15 : decode cSe_leastWidth 15 = .ok (.iload_n 1, 1) := by decide +kernel
theorem dSe_leastWidth_16 : decode cSe_leastWidth 16 = .ok (.iconst 1, 1) := by decide +kernel
theorem dSe_leastWidth_17 : decode cSe_leastWidth 17 = .ok (.isub, 1) := by decide +kernel
theorem dSe_leastWidth_18 : decode cSe_leastWidth 18 = .ok (.istore_n 2, 1) := by decide +kernel
theorem dSe_leastWidth_19 : decode cSe_leastWidth 19 = .ok (.iload_n 2, 1) := by decide +kernel
theorem dSe_leastWidth_20 : decode cSe_leastWidth 20 = .ok (.ifCond .lt 99, 3) := by decide +kernel
theorem dSe_leastWidth_23 : decode cSe_leastWidth 23 = .ok (.bipush 12, 2) := by decide +kernel
theorem dSe_leastWidth_25 : decode cSe_leastWidth 25 = .ok (.istore_n 3, 1) := by decide +kernel
theorem dSe_leastWidth_26 : decode cSe_leastWidth 26 = .ok (.iconst 0, 1) := by decide +kernel
theorem dSe_leastWidth_27 : decode cSe_leastWidth 27 = .ok (.istore 4, 2) := by decide +kernel
theorem dSe_leastWidth_29 : decode cSe_leastWidth 29 = .ok (.iload 4, 2) := by decide +kernel
theorem dSe_leastWidth_31 : decode cSe_leastWidth 31 = .ok (.aload_n 0, 1) := by decide +kernel
theorem dSe_leastWidth_32 : decode cSe_leastWidth 32 = .ok (.getfield 21, 3) := by decide +kernel
theorem dSe_leastWidth_35 : decode cSe_leastWidth 35 = .ok (.getfield 52, 3) := by decide +kernel
theorem dSe_leastWidth_38 : decode cSe_leastWidth 38 = .ok (.if_icmp .ge 68, 3) := by decide +kernel
theorem dSe_leastWidth_41 : decode cSe_leastWidth 41 = .ok (.iload_n 2, 1) := by decide +kernel
theorem dSe_leastWidth_42 : decode cSe_leastWidth 42 = .ok (.iconst 1, 1) := by decide +kernel
theorem dSe_leastWidth_43 : decode cSe_leastWidth 43 = .ok (.iload 4, 2) := by decide +kernel
theorem dSe_leastWidth_45 : decode cSe_leastWidth 45 = .ok (.ishl, 1) := by decide +kernel
theorem dSe_leastWidth_46 : decode cSe_leastWidth 46 = .ok (.ior, 1) := by decide +kernel
theorem dSe_leastWidth_47 : decode cSe_leastWidth 47 = .ok (.istore 5, 2) := by decide +kernel
theorem dSe_leastWidth_49 : decode cSe_leastWidth 49 = .ok (.iload 5, 2) := by decide +kernel
theorem dSe_leastWidth_51 : decode cSe_leastWidth 51 = .ok (.iload_n 2, 1) := by decide +kernel
theorem dSe_leastWidth_52 : decode cSe_leastWidth 52 = .ok (.if_icmp .eq 48, 3) := by decide +kernel
theorem dSe_leastWidth_55 : decode cSe_leastWidth 55 = .ok (.aload_n 0, 1) := by decide +kernel
theorem dSe_leastWidth_56 : decode cSe_leastWidth 56 = .ok (.getfield 18, 3) := by decide +kernel
theorem dSe_leastWidth_59 : decode cSe_leastWidth 59 = .ok (.iload 5, 2) := by decide +kernel
theorem dSe_leastWidth_61 : decode cSe_leastWidth 61 = .ok (.iaload, 1) := by decide +kernel
theorem dSe_leastWidth_62 : decode cSe_leastWidth 62 = .ok (.iload_n 3, 1) := by decide +kernel
theorem dSe_leastWidth_63 : decode cSe_leastWidth 63 = .ok (.if_icmp .ge 37, 3) := by decide +kernel
theorem dSe_leastWidth_66 : decode cSe_leastWidth 66 = .ok (.aload_n 0, 1) := by decide +kernel
theorem dSe_leastWidth_67 : decode cSe_leastWidth 67 = .ok (.getfield 21, 3) := by decide +kernel
theorem dSe_leastWidth_70 : decode cSe_leastWidth 70 = .ok (.iload 4, 2) := by decide +kernel
theorem dSe_leastWidth_72 : decode cSe_leastWidth 72 = .ok (.iload_n 2, 1) := by decide +kernel
theorem dSe_leastWidth_73 : decode cSe_leastWidth 73 = .ok (.invokevirtual 56, 3) := by decide +kernel
theorem dSe_leastWidth_76 : decode cSe_leastWidth 76 = .ok (.invokestatic 60, 3) := by decide +kernel
theorem dSe_leastWidth_79 : decode cSe_leastWidth 79 = .ok (.iconst 1, 1) := by decide +kernel
theorem dSe_leastWidth_80 : decode cSe_leastWidth 80 = .ok (.isub, 1) := by decide +kernel
theorem dSe_leastWidth_81 : decode cSe_leastWidth 81 = .ok (.istore 6, 2) := by decide +kernel
theorem dSe_leastWidth_83 : decode cSe_leastWidth 83 = .ok (.iload_n 3, 1) := by decide +kernel
theorem dSe_leastWidth_84 : decode cSe_leastWidth 84 = .ok (.iload 6, 2) := by decide +kernel
theorem dSe_leastWidth_86 : decode cSe_leastWidth 86 = .ok (.aload_n 0, 1) := by decide +kernel
theorem dSe_leastWidth_87 : decode cSe_leastWidth 87 = .ok (.getfield 18, 3) := by decide +kernel
theorem dSe_leastWidth_90 : decode cSe_leastWidth 90 = .ok (.iload 5, 2) := by decide +kernel
theorem dSe_leastWidth_92 : decode cSe_leastWidth 92 = .ok (.iaload, 1) := by decide +kernel
theorem dSe_leastWidth_93 : decode cSe_leastWidth 93 = .ok (.invokestatic 65, 3) := by decide +kernel
theorem dSe_leastWidth_96 : decode cSe_leastWidth 96 = .ok (.invokestatic 70, 3) := by decide +kernel
theorem dSe_leastWidth_99 : decode cSe_leastWidth 99 = .ok (.istore_n 3, 1) := by decide +kernel
theorem dSe_leastWidth_100 : decode cSe_leastWidth 100 = .ok (.iinc 4 1, 3) := by decide +kernel
theorem dSe_leastWidth_103 : decode cSe_leastWidth 103 = .ok (.goto (-74), 3) := by decide +kernel
theorem dSe_leastWidth_106 : decode cSe_leastWidth 106 = .ok (.aload_n 0, 1) := by decide +kernel
theorem dSe_leastWidth_107 : decode cSe_leastWidth 107 = .ok (.getfield 18, 3) := by decide +kernel
theorem dSe_leastWidth_110 : decode cSe_leastWidth 110 = .ok (.iload_n 2, 1) := by decide +kernel
theorem dSe_leastWidth_111 : decode cSe_leastWidth 111 = .ok (.iload_n 3, 1) := by decide +kernel
theorem dSe_leastWidth_112 : decode cSe_leastWidth 112 = .ok (.iastore, 1) := by decide +kernel
theorem dSe_leastWidth_113 : decode cSe_leastWidth 113 = .ok (.iinc 2 (-1), 3) := by decide +kernel
theorem dSe_leastWidth_116 : decode cSe_leastWidth 116 = .ok (.goto (-97), 3) := by decide +kernel
theorem dSe_leastWidth_119 : decode cSe_leastWidth 119 = .ok (.aload_n 0, 1) := by decide +kernel
theorem dSe_leastWidth_120 : decode cSe_leastWidth 120 = .ok (.getfield 18, 3) := by decide +kernel
theorem dSe_leastWidth_123 : decode cSe_leastWidth 123 = .ok (.iconst 0, 1) := by decide +kernel
theorem dSe_leastWidth_124 : decode cSe_leastWidth 124 = .ok (.iaload, 1) := by decide +kernel
theorem dSe_leastWidth_125 : decode cSe_leastWidth 125 = .ok (.ireturn, 1) := by decide +kernel
abbrev cSe_countLeastCells : ByteArray := prog_5_method_6_code
def ySe_countLeastCells : MethodName := ⟨RSe, "countLeastCells", "(I)V"⟩
theorem dSe_countLeastCells_0 : decode cSe_countLeastCells 0 = .ok (.aload_n 0, 1) := by decide +kernel
theorem dSe_countLeastCells_1 : decode cSe_countLeastCells 1 = .ok (.getfield 21, 3) := by decide +kernel
theorem dSe_countLeastCells_4 : decode cSe_countLeastCells 4 = .ok (.invokevirtual 43, 3) := by decide +kernel
theorem dSe_countLeastCells_7 : decode cSe_countLeastCells 7 = .ok (.istore_n 2, 1) := by decide +kernel
theorem dSe_countLeastCells_8 : decode cSe_countLeastCells 8 = .ok (.aload_n 0, 1) := by decide +kernel
theorem dSe_countLeastCells_9 : decode cSe_countLeastCells 9 = .ok (.getfield 18, 3) := by decide +kernel
theorem dSe_countLeastCells_12 : decode cSe_countLeastCells 12 = .ok (.iload_n 2, 1) := by decide +kernel
theorem dSe_countLeastCells_13 : decode cSe_countLeastCells 13 = .ok (.iconst 0, 1) := by decide +kernel
theorem dSe_countLeastCells_14 : decode cSe_countLeastCells 14 = .ok (.iastore, 1) := by decide +kernel
theorem dSe_countLeastCells_15 : decode cSe_countLeastCells 15 = .ok (.iload_n 2, 1) := by decide +kernel
theorem dSe_countLeastCells_16 : decode cSe_countLeastCells 16 = .ok (.iconst 1, 1) := by decide +kernel
theorem dSe_countLeastCells_17 : decode cSe_countLeastCells 17 = .ok (.isub, 1) := by decide +kernel
theorem dSe_countLeastCells_18 : decode cSe_countLeastCells 18 = .ok (.istore_n 3, 1) := by decide +kernel
theorem dSe_countLeastCells_19 : decode cSe_countLeastCells 19 = .ok (.iload_n 3, 1) := by decide +kernel
theorem dSe_countLeastCells_20 : decode cSe_countLeastCells 20 = .ok (.ifCond .lt 83, 3) := by decide +kernel
theorem dSe_countLeastCells_23 : decode cSe_countLeastCells 23 = .ok (.ldc 73, 2) := by decide +kernel
theorem dSe_countLeastCells_25 : decode cSe_countLeastCells 25 = .ok (.istore 4, 2) := by decide +kernel
theorem dSe_countLeastCells_27 : decode cSe_countLeastCells 27 = .ok (.iconst 0, 1) := by decide +kernel
theorem dSe_countLeastCells_28 : decode cSe_countLeastCells 28 = .ok (.istore 5, 2) := by decide +kernel
theorem dSe_countLeastCells_30 : decode cSe_countLeastCells 30 = .ok (.iload 5, 2) := by decide +kernel
theorem dSe_countLeastCells_32 : decode cSe_countLeastCells 32 = .ok (.aload_n 0, 1) := by decide +kernel
theorem dSe_countLeastCells_33 : decode cSe_countLeastCells 33 = .ok (.getfield 21, 3) := by decide +kernel
theorem dSe_countLeastCells_36 : decode cSe_countLeastCells 36 = .ok (.getfield 52, 3) := by decide +kernel
theorem dSe_countLeastCells_39 : decode cSe_countLeastCells 39 = .ok (.if_icmp .ge 50, 3) := by decide +kernel
theorem dSe_countLeastCells_42 : decode cSe_countLeastCells 42 = .ok (.iload_n 3, 1) := by decide +kernel
theorem dSe_countLeastCells_43 : decode cSe_countLeastCells 43 = .ok (.iconst 1, 1) := by decide +kernel
theorem dSe_countLeastCells_44 : decode cSe_countLeastCells 44 = .ok (.iload 5, 2) := by decide +kernel
theorem dSe_countLeastCells_46 : decode cSe_countLeastCells 46 = .ok (.ishl, 1) := by decide +kernel
theorem dSe_countLeastCells_47 : decode cSe_countLeastCells 47 = .ok (.ior, 1) := by decide +kernel
theorem dSe_countLeastCells_48 : decode cSe_countLeastCells 48 = .ok (.istore 6, 2) := by decide +kernel
theorem dSe_countLeastCells_50 : decode cSe_countLeastCells 50 = .ok (.iload 6, 2) := by decide +kernel
theorem dSe_countLeastCells_52 : decode cSe_countLeastCells 52 = .ok (.iload_n 3, 1) := by decide +kernel
theorem dSe_countLeastCells_53 : decode cSe_countLeastCells 53 = .ok (.if_icmp .eq 30, 3) := by decide +kernel
theorem dSe_countLeastCells_56 : decode cSe_countLeastCells 56 = .ok (.aload_n 0, 1) := by decide +kernel
theorem dSe_countLeastCells_57 : decode cSe_countLeastCells 57 = .ok (.getfield 18, 3) := by decide +kernel
theorem dSe_countLeastCells_60 : decode cSe_countLeastCells 60 = .ok (.iload 6, 2) := by decide +kernel
theorem dSe_countLeastCells_62 : decode cSe_countLeastCells 62 = .ok (.iaload, 1) := by decide +kernel
theorem dSe_countLeastCells_63 : decode cSe_countLeastCells 63 = .ok (.iload 4, 2) := by decide +kernel
theorem dSe_countLeastCells_65 : decode cSe_countLeastCells 65 = .ok (.if_icmp .ge 18, 3) := by decide +kernel
theorem dSe_countLeastCells_68 : decode cSe_countLeastCells 68 = .ok (.iload 4, 2) := by decide +kernel
theorem dSe_countLeastCells_70 : decode cSe_countLeastCells 70 = .ok (.aload_n 0, 1) := by decide +kernel
theorem dSe_countLeastCells_71 : decode cSe_countLeastCells 71 = .ok (.iload 5, 2) := by decide +kernel
theorem dSe_countLeastCells_73 : decode cSe_countLeastCells 73 = .ok (.iload_n 3, 1) := by decide +kernel
theorem dSe_countLeastCells_74 : decode cSe_countLeastCells 74 = .ok (.iload_n 1, 1) := by decide +kernel
theorem dSe_countLeastCells_75 : decode cSe_countLeastCells 75 = .ok (.invokevirtual 74, 3) := by decide +kernel
theorem dSe_countLeastCells_78 : decode cSe_countLeastCells 78 = .ok (.invokestatic 70, 3) := by decide +kernel
theorem dSe_countLeastCells_81 : decode cSe_countLeastCells 81 = .ok (.istore 4, 2) := by decide +kernel
theorem dSe_countLeastCells_83 : decode cSe_countLeastCells 83 = .ok (.iinc 5 1, 3) := by decide +kernel
theorem dSe_countLeastCells_86 : decode cSe_countLeastCells 86 = .ok (.goto (-56), 3) := by decide +kernel
theorem dSe_countLeastCells_89 : decode cSe_countLeastCells 89 = .ok (.aload_n 0, 1) := by decide +kernel
theorem dSe_countLeastCells_90 : decode cSe_countLeastCells 90 = .ok (.getfield 18, 3) := by decide +kernel
theorem dSe_countLeastCells_93 : decode cSe_countLeastCells 93 = .ok (.iload_n 3, 1) := by decide +kernel
theorem dSe_countLeastCells_94 : decode cSe_countLeastCells 94 = .ok (.iload 4, 2) := by decide +kernel
theorem dSe_countLeastCells_96 : decode cSe_countLeastCells 96 = .ok (.iastore, 1) := by decide +kernel
theorem dSe_countLeastCells_97 : decode cSe_countLeastCells 97 = .ok (.iinc 3 (-1), 3) := by decide +kernel
theorem dSe_countLeastCells_100 : decode cSe_countLeastCells 100 = .ok (.goto (-81), 3) := by decide +kernel
theorem dSe_countLeastCells_103 : decode cSe_countLeastCells 103 = .ok (.return_, 1) := by decide +kernel
abbrev cSe_cellsFrom : ByteArray := prog_5_method_7_code
def ySe_cellsFrom : MethodName := ⟨RSe, "cellsFrom", "(III)I"⟩
theorem dSe_cellsFrom_0 : decode cSe_cellsFrom 0 = .ok (.aload_n 0, 1) := by decide +kernel
theorem dSe_cellsFrom_1 : decode cSe_cellsFrom 1 = .ok (.getfield 21, 3) := by decide +kernel
theorem dSe_cellsFrom_4 : decode cSe_cellsFrom 4 = .ok (.iload_n 1, 1) := by decide +kernel
theorem dSe_cellsFrom_5 : decode cSe_cellsFrom 5 = .ok (.iload_n 2, 1) := by decide +kernel
theorem dSe_cellsFrom_6 : decode cSe_cellsFrom 6 = .ok (.invokevirtual 56, 3) := by decide +kernel
theorem dSe_cellsFrom_9 : decode cSe_cellsFrom 9 = .ok (.istore 4, 2) := by decide +kernel
theorem dSe_cellsFrom_11 : decode cSe_cellsFrom 11 = .ok (.iload 4, 2) := by decide +kernel
theorem dSe_cellsFrom_13 : decode cSe_cellsFrom 13 = .ok (.invokestatic 60, 3) := by decide +kernel
theorem dSe_cellsFrom_16 : decode cSe_cellsFrom 16 = .ok (.iconst 1, 1) := by decide +kernel
theorem dSe_cellsFrom_17 : decode cSe_cellsFrom 17 = .ok (.isub, 1) := by decide +kernel
theorem dSe_cellsFrom_18 : decode cSe_cellsFrom 18 = .ok (.iload_n 3, 1) := by decide +kernel
theorem dSe_cellsFrom_19 : decode cSe_cellsFrom 19 = .ok (.if_icmp .le 7, 3) := by decide +kernel
theorem dSe_cellsFrom_22 : decode cSe_cellsFrom 22 = .ok (.iconst 1, 1) := by decide +kernel
theorem dSe_cellsFrom_23 : decode cSe_cellsFrom 23 = .ok (.goto 4, 3) := by decide +kernel
theorem dSe_cellsFrom_26 : decode cSe_cellsFrom 26 = .ok (.iconst 0, 1) := by decide +kernel
theorem dSe_cellsFrom_27 : decode cSe_cellsFrom 27 = .ok (.istore 5, 2) := by decide +kernel
theorem dSe_cellsFrom_29 : decode cSe_cellsFrom 29 = .ok (.iload 5, 2) := by decide +kernel
theorem dSe_cellsFrom_31 : decode cSe_cellsFrom 31 = .ok (.ifCond .eq 8, 3) := by decide +kernel
theorem dSe_cellsFrom_34 : decode cSe_cellsFrom 34 = .ok (.ldc 73, 2) := by decide +kernel
theorem dSe_cellsFrom_36 : decode cSe_cellsFrom 36 = .ok (.goto 21, 3) := by decide +kernel
theorem dSe_cellsFrom_39 : decode cSe_cellsFrom 39 = .ok (.aload_n 0, 1) := by decide +kernel
theorem dSe_cellsFrom_40 : decode cSe_cellsFrom 40 = .ok (.getfield 15, 3) := by decide +kernel
theorem dSe_cellsFrom_43 : decode cSe_cellsFrom 43 = .ok (.iload 4, 2) := by decide +kernel
theorem dSe_cellsFrom_45 : decode cSe_cellsFrom 45 = .ok (.iaload, 1) := by decide +kernel
theorem dSe_cellsFrom_46 : decode cSe_cellsFrom 46 = .ok (.aload_n 0, 1) := by decide +kernel
theorem dSe_cellsFrom_47 : decode cSe_cellsFrom 47 = .ok (.getfield 18, 3) := by decide +kernel
theorem dSe_cellsFrom_50 : decode cSe_cellsFrom 50 = .ok (.iload_n 2, 1) := by decide +kernel
theorem dSe_cellsFrom_51 : decode cSe_cellsFrom 51 = .ok (.iconst 1, 1) := by decide +kernel
theorem dSe_cellsFrom_52 : decode cSe_cellsFrom 52 = .ok (.iload_n 1, 1) := by decide +kernel
theorem dSe_cellsFrom_53 : decode cSe_cellsFrom 53 = .ok (.ishl, 1) := by decide +kernel
theorem dSe_cellsFrom_54 : decode cSe_cellsFrom 54 = .ok (.ior, 1) := by decide +kernel
theorem dSe_cellsFrom_55 : decode cSe_cellsFrom 55 = .ok (.iaload, 1) := by decide +kernel
theorem dSe_cellsFrom_56 : decode cSe_cellsFrom 56 = .ok (.iadd, 1) := by decide +kernel
theorem dSe_cellsFrom_57 : decode cSe_cellsFrom 57 = .ok (.ireturn, 1) := by decide +kernel
abbrev cSe_follow : ByteArray := prog_5_method_8_code
def ySe_follow : MethodName := ⟨RSe, "follow", "(I)V"⟩
theorem dSe_follow_0 : decode cSe_follow 0 = .ok (.iconst 0, 1) := by decide +kernel
theorem dSe_follow_1 : decode cSe_follow 1 = .ok (.istore_n 2, 1) := by decide +kernel
theorem dSe_follow_2 : decode cSe_follow 2 = .ok (.iconst 0, 1) := by decide +kernel
theorem dSe_follow_3 : decode cSe_follow 3 = .ok (.istore_n 3, 1) := by decide +kernel
theorem dSe_follow_4 : decode cSe_follow 4 = .ok (.iload_n 3, 1) := by decide +kernel
theorem dSe_follow_5 : decode cSe_follow 5 = .ok (.aload_n 0, 1) := by decide +kernel
theorem dSe_follow_6 : decode cSe_follow 6 = .ok (.getfield 21, 3) := by decide +kernel
theorem dSe_follow_9 : decode cSe_follow 9 = .ok (.getfield 52, 3) := by decide +kernel
theorem dSe_follow_12 : decode cSe_follow 12 = .ok (.if_icmp .ge 86, 3) := by decide +kernel
theorem dSe_follow_15 : decode cSe_follow 15 = .ok (.iconst 0, 1) := by decide +kernel
theorem dSe_follow_16 : decode cSe_follow 16 = .ok (.istore 4, 2) := by decide +kernel
theorem dSe_follow_18 : decode cSe_follow 18 = .ok (.iload 4, 2) := by decide +kernel
theorem dSe_follow_20 : decode cSe_follow 20 = .ok (.aload_n 0, 1) := by decide +kernel
theorem dSe_follow_21 : decode cSe_follow 21 = .ok (.getfield 21, 3) := by decide +kernel
theorem dSe_follow_24 : decode cSe_follow 24 = .ok (.getfield 52, 3) := by decide +kernel
theorem dSe_follow_27 : decode cSe_follow 27 = .ok (.if_icmp .ge 65, 3) := by decide +kernel
theorem dSe_follow_30 : decode cSe_follow 30 = .ok (.iload_n 2, 1) := by decide +kernel
theorem dSe_follow_31 : decode cSe_follow 31 = .ok (.iconst 1, 1) := by decide +kernel
theorem dSe_follow_32 : decode cSe_follow 32 = .ok (.iload 4, 2) := by decide +kernel
theorem dSe_follow_34 : decode cSe_follow 34 = .ok (.ishl, 1) := by decide +kernel
theorem dSe_follow_35 : decode cSe_follow 35 = .ok (.iand, 1) := by decide +kernel
theorem dSe_follow_36 : decode cSe_follow 36 = .ok (.ifCond .ne 7, 3) := by decide +kernel
theorem dSe_follow_39 : decode cSe_follow 39 = .ok (.iconst 1, 1) := by decide +kernel
theorem dSe_follow_40 : decode cSe_follow 40 = .ok (.goto 4, 3) := by decide +kernel
theorem dSe_follow_43 : decode cSe_follow 43 = .ok (.iconst 0, 1) := by decide +kernel
theorem dSe_follow_44 : decode cSe_follow 44 = .ok (.istore 5, 2) := by decide +kernel
theorem dSe_follow_46 : decode cSe_follow 46 = .ok (.iload 5, 2) := by decide +kernel
theorem dSe_follow_48 : decode cSe_follow 48 = .ok (.ifCond .eq 38, 3) := by decide +kernel
theorem dSe_follow_51 : decode cSe_follow 51 = .ok (.aload_n 0, 1) := by decide +kernel
theorem dSe_follow_52 : decode cSe_follow 52 = .ok (.iload 4, 2) := by decide +kernel
theorem dSe_follow_54 : decode cSe_follow 54 = .ok (.iload_n 2, 1) := by decide +kernel
theorem dSe_follow_55 : decode cSe_follow 55 = .ok (.iload_n 1, 1) := by decide +kernel
theorem dSe_follow_56 : decode cSe_follow 56 = .ok (.invokevirtual 74, 3) := by decide +kernel
theorem dSe_follow_59 : decode cSe_follow 59 = .ok (.aload_n 0, 1) := by decide +kernel
theorem dSe_follow_60 : decode cSe_follow 60 = .ok (.getfield 18, 3) := by decide +kernel
theorem dSe_follow_63 : decode cSe_follow 63 = .ok (.iload_n 2, 1) := by decide +kernel
theorem dSe_follow_64 : decode cSe_follow 64 = .ok (.iaload, 1) := by decide +kernel
theorem dSe_follow_65 : decode cSe_follow 65 = .ok (.if_icmp .ne 21, 3) := by decide +kernel
theorem dSe_follow_68 : decode cSe_follow 68 = .ok (.aload_n 0, 1) := by decide +kernel
theorem dSe_follow_69 : decode cSe_follow 69 = .ok (.getfield 9, 3) := by decide +kernel
theorem dSe_follow_72 : decode cSe_follow 72 = .ok (.iload_n 3, 1) := by decide +kernel
theorem dSe_follow_73 : decode cSe_follow 73 = .ok (.iload 4, 2) := by decide +kernel
theorem dSe_follow_75 : decode cSe_follow 75 = .ok (.iastore, 1) := by decide +kernel
theorem dSe_follow_76 : decode cSe_follow 76 = .ok (.iload_n 2, 1) := by decide +kernel
theorem dSe_follow_77 : decode cSe_follow 77 = .ok (.iconst 1, 1) := by decide +kernel
theorem dSe_follow_78 : decode cSe_follow 78 = .ok (.iload 4, 2) := by decide +kernel
theorem dSe_follow_80 : decode cSe_follow 80 = .ok (.ishl, 1) := by decide +kernel
theorem dSe_follow_81 : decode cSe_follow 81 = .ok (.ior, 1) := by decide +kernel
theorem dSe_follow_82 : decode cSe_follow 82 = .ok (.istore_n 2, 1) := by decide +kernel
theorem dSe_follow_83 : decode cSe_follow 83 = .ok (.goto 9, 3) := by decide +kernel
theorem dSe_follow_86 : decode cSe_follow 86 = .ok (.iinc 4 1, 3) := by decide +kernel
theorem dSe_follow_89 : decode cSe_follow 89 = .ok (.goto (-71), 3) := by decide +kernel
theorem dSe_follow_92 : decode cSe_follow 92 = .ok (.iinc 3 1, 3) := by decide +kernel
theorem dSe_follow_95 : decode cSe_follow 95 = .ok (.goto (-91), 3) := by decide +kernel
theorem dSe_follow_98 : decode cSe_follow 98 = .ok (.return_, 1) := by decide +kernel
end
section
abbrev cSq_init : ByteArray := prog_6_method_1_code
def ySq_init : MethodName := ⟨RSq, "<init>", "(LTableOrders$Graph;)V"⟩
theorem dSq_init_0 : decode cSq_init 0 = .ok (.aload_n 0, 1) := by decide +kernel
theorem dSq_init_1 : decode cSq_init 1 = .ok (.invokespecial 3, 3) := by decide +kernel
theorem dSq_init_4 : decode cSq_init 4 = .ok (.aload_n 0, 1) := by decide +kernel
theorem dSq_init_5 : decode cSq_init 5 = .ok (.bipush 12, 2) := by decide +kernel
theorem dSq_init_7 : decode cSq_init 7 = .ok (.newarray .int, 2) := by decide +kernel
theorem dSq_init_9 : decode cSq_init 9 = .ok (.putfield 9, 3) := by decide +kernel
theorem dSq_init_12 : decode cSq_init 12 = .ok (.aload_n 0, 1) := by decide +kernel
theorem dSq_init_13 : decode cSq_init 13 = .ok (.bipush 12, 2) := by decide +kernel
theorem dSq_init_15 : decode cSq_init 15 = .ok (.newarray .int, 2) := by decide +kernel
theorem dSq_init_17 : decode cSq_init 17 = .ok (.putfield 15, 3) := by decide +kernel
theorem dSq_init_20 : decode cSq_init 20 = .ok (.aload_n 0, 1) := by decide +kernel
theorem dSq_init_21 : decode cSq_init 21 = .ok (.bipush 12, 2) := by decide +kernel
theorem dSq_init_23 : decode cSq_init 23 = .ok (.newarray .int, 2) := by decide +kernel
theorem dSq_init_25 : decode cSq_init 25 = .ok (.putfield 18, 3) := by decide +kernel
theorem dSq_init_28 : decode cSq_init 28 = .ok (.aload_n 0, 1) := by decide +kernel
theorem dSq_init_29 : decode cSq_init 29 = .ok (.aload_n 1, 1) := by decide +kernel
theorem dSq_init_30 : decode cSq_init 30 = .ok (.putfield 21, 3) := by decide +kernel
theorem dSq_init_33 : decode cSq_init 33 = .ok (.aload_n 0, 1) := by decide +kernel
theorem dSq_init_34 : decode cSq_init 34 = .ok (.new 25, 3) := by decide +kernel
theorem dSq_init_37 : decode cSq_init 37 = .ok (.dup, 1) := by decide +kernel
theorem dSq_init_38 : decode cSq_init 38 = .ok (.aload_n 1, 1) := by decide +kernel
theorem dSq_init_39 : decode cSq_init 39 = .ok (.invokespecial 27, 3) := by decide +kernel
theorem dSq_init_42 : decode cSq_init 42 = .ok (.putfield 30, 3) := by decide +kernel
theorem dSq_init_45 : decode cSq_init 45 = .ok (.aload_n 0, 1) := by decide +kernel
theorem dSq_init_46 : decode cSq_init 46 = .ok (.getfield 9, 3) := by decide +kernel
theorem dSq_init_49 : decode cSq_init 49 = .ok (.iconst (-1), 1) := by decide +kernel
theorem dSq_init_50 : decode cSq_init 50 = .ok (.invokestatic 34, 3) := by decide +kernel
theorem dSq_init_53 : decode cSq_init 53 = .ok (.return_, 1) := by decide +kernel
abbrev cSq_placesHaveEachOnce : ByteArray := prog_6_method_2_code
def ySq_placesHaveEachOnce : MethodName := ⟨RSq, "placesHaveEachOnce", "()Z"⟩
theorem dSq_placesHaveEachOnce_0 : decode cSq_placesHaveEachOnce 0 = .ok (.iconst 0, 1) := by decide +kernel
theorem dSq_placesHaveEachOnce_1 : decode cSq_placesHaveEachOnce 1 = .ok (.istore_n 1, 1) := by decide +kernel
theorem dSq_placesHaveEachOnce_2 : decode cSq_placesHaveEachOnce 2 = .ok (.iconst 0, 1) := by decide +kernel
theorem dSq_placesHaveEachOnce_3 : decode cSq_placesHaveEachOnce 3 = .ok (.istore_n 2, 1) := by decide +kernel
theorem dSq_placesHaveEachOnce_4 : decode cSq_placesHaveEachOnce 4 = .ok (.iload_n 2, 1) := by decide +kernel
theorem dSq_placesHaveEachOnce_5 : decode cSq_placesHaveEachOnce 5 = .ok (.aload_n 0, 1) := by decide +kernel
theorem dSq_placesHaveEachOnce_6 : decode cSq_placesHaveEachOnce 6 = .ok (.getfield 21, 3) := by decide +kernel
theorem dSq_placesHaveEachOnce_9 : decode cSq_placesHaveEachOnce 9 = .ok (.getfield 40, 3) := by decide +kernel
theorem dSq_placesHaveEachOnce_12 : decode cSq_placesHaveEachOnce 12 = .ok (.if_icmp .ge 30, 3) := by decide +kernel
theorem dSq_placesHaveEachOnce_15 : decode cSq_placesHaveEachOnce 15 = .ok (.aload_n 0, 1) := by decide +kernel
theorem dSq_placesHaveEachOnce_16 : decode cSq_placesHaveEachOnce 16 = .ok (.getfield 9, 3) := by decide +kernel
theorem dSq_placesHaveEachOnce_19 : decode cSq_placesHaveEachOnce 19 = .ok (.iload_n 2, 1) := by decide +kernel
theorem dSq_placesHaveEachOnce_20 : decode cSq_placesHaveEachOnce 20 = .ok (.iaload, 1) := by decide +kernel
theorem dSq_placesHaveEachOnce_21 : decode cSq_placesHaveEachOnce 21 = .ok (.iconst (-1), 1) := by decide +kernel
theorem dSq_placesHaveEachOnce_22 : decode cSq_placesHaveEachOnce 22 = .ok (.if_icmp .eq 14, 3) := by decide +kernel
theorem dSq_placesHaveEachOnce_25 : decode cSq_placesHaveEachOnce 25 = .ok (.iload_n 1, 1) := by decide +kernel
theorem dSq_placesHaveEachOnce_26 : decode cSq_placesHaveEachOnce 26 = .ok (.iconst 1, 1) := by decide +kernel
theorem dSq_placesHaveEachOnce_27 : decode cSq_placesHaveEachOnce 27 = .ok (.aload_n 0, 1) := by decide +kernel
theorem dSq_placesHaveEachOnce_28 : decode cSq_placesHaveEachOnce 28 = .ok (.getfield 9, 3) := by decide +kernel
theorem dSq_placesHaveEachOnce_31 : decode cSq_placesHaveEachOnce 31 = .ok (.iload_n 2, 1) := by decide +kernel
theorem dSq_placesHaveEachOnce_32 : decode cSq_placesHaveEachOnce 32 = .ok (.iaload, 1) := by decide +kernel
theorem dSq_placesHaveEachOnce_33 : decode cSq_placesHaveEachOnce 33 = .ok (.ishl, 1) := by decide +kernel
theorem dSq_placesHaveEachOnce_34 : decode cSq_placesHaveEachOnce 34 = .ok (.ior, 1) := by decide +kernel
theorem dSq_placesHaveEachOnce_35 : decode cSq_placesHaveEachOnce 35 = .ok (.istore_n 1, 1) := by decide +kernel
theorem dSq_placesHaveEachOnce_36 : decode cSq_placesHaveEachOnce 36 = .ok (.iinc 2 1, 3) := by decide +kernel
theorem dSq_placesHaveEachOnce_39 : decode cSq_placesHaveEachOnce 39 = .ok (.goto (-35), 3) := by decide +kernel
theorem dSq_placesHaveEachOnce_42 : decode cSq_placesHaveEachOnce 42 = .ok (.iload_n 1, 1) := by decide +kernel
theorem dSq_placesHaveEachOnce_43 : decode cSq_placesHaveEachOnce 43 = .ok (.aload_n 0, 1) := by decide +kernel
theorem dSq_placesHaveEachOnce_44 : decode cSq_placesHaveEachOnce 44 = .ok (.getfield 21, 3) := by decide +kernel
theorem dSq_placesHaveEachOnce_47 : decode cSq_placesHaveEachOnce 47 = .ok (.invokevirtual 46, 3) := by decide +kernel
theorem dSq_placesHaveEachOnce_50 : decode cSq_placesHaveEachOnce 50 = .ok (.if_icmp .ne 7, 3) := by decide +kernel
theorem dSq_placesHaveEachOnce_53 : decode cSq_placesHaveEachOnce 53 = .ok (.iconst 1, 1) := by decide +kernel
theorem dSq_placesHaveEachOnce_54 : decode cSq_placesHaveEachOnce 54 = .ok (.goto 4, 3) := by decide +kernel
theorem dSq_placesHaveEachOnce_57 : decode cSq_placesHaveEachOnce 57 = .ok (.iconst 0, 1) := by decide +kernel
theorem dSq_placesHaveEachOnce_58 : decode cSq_placesHaveEachOnce 58 = .ok (.ireturn, 1) := by decide +kernel
abbrev cSq_forget : ByteArray := prog_6_method_3_code
def ySq_forget : MethodName := ⟨RSq, "forget", "()V"⟩
theorem dSq_forget_0 : decode cSq_forget 0 = .ok (.aload_n 0, 1) := by decide +kernel
theorem dSq_forget_1 : decode cSq_forget 1 = .ok (.iconst 0, 1) := by decide +kernel
theorem dSq_forget_2 : decode cSq_forget 2 = .ok (.putfield 50, 3) := by decide +kernel
theorem dSq_forget_5 : decode cSq_forget 5 = .ok (.aload_n 0, 1) := by decide +kernel
theorem dSq_forget_6 : decode cSq_forget 6 = .ok (.getfield 30, 3) := by decide +kernel
theorem dSq_forget_9 : decode cSq_forget 9 = .ok (.invokevirtual 54, 3) := by decide +kernel
theorem dSq_forget_12 : decode cSq_forget 12 = .ok (.return_, 1) := by decide +kernel
abbrev cSq_refresh : ByteArray := prog_6_method_4_code
def ySq_refresh : MethodName := ⟨RSq, "refresh", "()V"⟩
theorem dSq_refresh_0 : decode cSq_refresh 0 = .ok (.aload_n 0, 1) := by decide +kernel
theorem dSq_refresh_1 : decode cSq_refresh 1 = .ok (.getfield 50, 3) := by decide +kernel
theorem dSq_refresh_4 : decode cSq_refresh 4 = .ok (.ifCond .eq 4, 3) := by decide +kernel
theorem dSq_refresh_7 : decode cSq_refresh 7 = .ok (.return_, 1) := by decide +kernel
theorem dSq_refresh_8 : decode cSq_refresh 8 = .ok (.aload_n 0, 1) := by decide +kernel
theorem dSq_refresh_9 : decode cSq_refresh 9 = .ok (.iconst 0, 1) := by decide +kernel
theorem dSq_refresh_10 : decode cSq_refresh 10 = .ok (.putfield 57, 3) := by decide +kernel
theorem dSq_refresh_13 : decode cSq_refresh 13 = .ok (.iconst 0, 1) := by decide +kernel
theorem dSq_refresh_14 : decode cSq_refresh 14 = .ok (.istore_n 1, 1) := by decide +kernel
theorem dSq_refresh_15 : decode cSq_refresh 15 = .ok (.iload_n 1, 1) := by decide +kernel
theorem dSq_refresh_16 : decode cSq_refresh 16 = .ok (.aload_n 0, 1) := by decide +kernel
theorem dSq_refresh_17 : decode cSq_refresh 17 = .ok (.getfield 21, 3) := by decide +kernel
theorem dSq_refresh_20 : decode cSq_refresh 20 = .ok (.getfield 40, 3) := by decide +kernel
theorem dSq_refresh_23 : decode cSq_refresh 23 = .ok (.if_icmp .ge 16, 3) := by decide +kernel
theorem dSq_refresh_26 : decode cSq_refresh 26 = .ok (.aload_n 0, 1) := by decide +kernel
theorem dSq_refresh_27 : decode cSq_refresh 27 = .ok (.getfield 15, 3) := by decide +kernel
theorem dSq_refresh_30 : decode cSq_refresh 30 = .ok (.iload_n 1, 1) := by decide +kernel
theorem dSq_refresh_31 : decode cSq_refresh 31 = .ok (.iload_n 1, 1) := by decide +kernel
theorem dSq_refresh_32 : decode cSq_refresh 32 = .ok (.iastore, 1) := by decide +kernel
theorem dSq_refresh_33 : decode cSq_refresh 33 = .ok (.iinc 1 1, 3) := by decide +kernel
theorem dSq_refresh_36 : decode cSq_refresh 36 = .ok (.goto (-21), 3) := by decide +kernel
theorem dSq_refresh_39 : decode cSq_refresh 39 = .ok (.aload_n 0, 1) := by decide +kernel
theorem dSq_refresh_40 : decode cSq_refresh 40 = .ok (.invokevirtual 60, 3) := by decide +kernel
theorem dSq_refresh_43 : decode cSq_refresh 43 = .ok (.return_, 1) := by decide +kernel
abbrev cSq_arrange : ByteArray := prog_6_method_5_code
def ySq_arrange : MethodName := ⟨RSq, "arrange", "(I)V"⟩
theorem dSq_arrange_0 : decode cSq_arrange 0 = .ok (.aload_n 0, 1) := by decide +kernel
theorem dSq_arrange_1 : decode cSq_arrange 1 = .ok (.iload_n 1, 1) := by decide +kernel
theorem dSq_arrange_2 : decode cSq_arrange 2 = .ok (.putfield 57, 3) := by decide +kernel
theorem dSq_arrange_5 : decode cSq_arrange 5 = .ok (.aload_n 0, 1) := by decide +kernel
theorem dSq_arrange_6 : decode cSq_arrange 6 = .ok (.getfield 57, 3) := by decide +kernel
theorem dSq_arrange_9 : decode cSq_arrange 9 = .ok (.iconst 5, 1) := by decide +kernel
theorem dSq_arrange_10 : decode cSq_arrange 10 = .ok (.if_icmp .ne 10, 3) := by decide +kernel
theorem dSq_arrange_13 : decode cSq_arrange 13 = .ok (.aload_n 0, 1) := by decide +kernel
theorem dSq_arrange_14 : decode cSq_arrange 14 = .ok (.getfield 30, 3) := by decide +kernel
theorem dSq_arrange_17 : decode cSq_arrange 17 = .ok (.invokevirtual 63, 3) := by decide +kernel
theorem dSq_arrange_20 : decode cSq_arrange 20 = .ok (.iconst 0, 1) := by decide +kernel
theorem dSq_arrange_21 : decode cSq_arrange 21 = .ok (.istore_n 2, 1) := by decide +kernel
theorem dSq_arrange_22 : decode cSq_arrange 22 = .ok (.iconst 0, 1) := by decide +kernel
theorem dSq_arrange_23 : decode cSq_arrange 23 = .ok (.istore_n 3, 1) := by decide +kernel
theorem dSq_arrange_24 : decode cSq_arrange 24 = .ok (.iload_n 3, 1) := by decide +kernel
theorem dSq_arrange_25 : decode cSq_arrange 25 = .ok (.aload_n 0, 1) := by decide +kernel
theorem dSq_arrange_26 : decode cSq_arrange 26 = .ok (.getfield 21, 3) := by decide +kernel
theorem dSq_arrange_29 : decode cSq_arrange 29 = .ok (.getfield 40, 3) := by decide +kernel
theorem dSq_arrange_32 : decode cSq_arrange 32 = .ok (.if_icmp .ge 32, 3) := by decide +kernel
theorem dSq_arrange_35 : decode cSq_arrange 35 = .ok (.aload_n 0, 1) := by decide +kernel
theorem dSq_arrange_36 : decode cSq_arrange 36 = .ok (.getfield 15, 3) := by decide +kernel
theorem dSq_arrange_39 : decode cSq_arrange 39 = .ok (.iload_n 3, 1) := by decide +kernel
theorem dSq_arrange_40 : decode cSq_arrange 40 = .ok (.aload_n 0, 1) := by decide +kernel
theorem dSq_arrange_41 : decode cSq_arrange 41 = .ok (.iload_n 3, 1) := by decide +kernel
theorem dSq_arrange_42 : decode cSq_arrange 42 = .ok (.iload_n 2, 1) := by decide +kernel
theorem dSq_arrange_43 : decode cSq_arrange 43 = .ok (.invokevirtual 66, 3) := by decide +kernel
theorem dSq_arrange_46 : decode cSq_arrange 46 = .ok (.iastore, 1) := by decide +kernel
theorem dSq_arrange_47 : decode cSq_arrange 47 = .ok (.iload_n 2, 1) := by decide +kernel
theorem dSq_arrange_48 : decode cSq_arrange 48 = .ok (.iconst 1, 1) := by decide +kernel
theorem dSq_arrange_49 : decode cSq_arrange 49 = .ok (.aload_n 0, 1) := by decide +kernel
theorem dSq_arrange_50 : decode cSq_arrange 50 = .ok (.getfield 15, 3) := by decide +kernel
theorem dSq_arrange_53 : decode cSq_arrange 53 = .ok (.iload_n 3, 1) := by decide +kernel
theorem dSq_arrange_54 : decode cSq_arrange 54 = .ok (.iaload, 1) := by decide +kernel
theorem dSq_arrange_55 : decode cSq_arrange 55 = .ok (.ishl, 1) := by decide +kernel
theorem dSq_arrange_56 : decode cSq_arrange 56 = .ok (.ior, 1) := by decide +kernel
theorem dSq_arrange_57 : decode cSq_arrange 57 = .ok (.istore_n 2, 1) := by decide +kernel
theorem dSq_arrange_58 : decode cSq_arrange 58 = .ok (.iinc 3 1, 3) := by decide +kernel
theorem dSq_arrange_61 : decode cSq_arrange 61 = .ok (.goto (-37), 3) := by decide +kernel
theorem dSq_arrange_64 : decode cSq_arrange 64 = .ok (.aload_n 0, 1) := by decide +kernel
theorem dSq_arrange_65 : decode cSq_arrange 65 = .ok (.invokevirtual 60, 3) := by decide +kernel
theorem dSq_arrange_68 : decode cSq_arrange 68 = .ok (.return_, 1) := by decide +kernel
abbrev cSq_chosenAt : ByteArray := prog_6_method_6_code
def ySq_chosenAt : MethodName := ⟨RSq, "chosenAt", "(II)I"⟩
theorem dSq_chosenAt_0 : decode cSq_chosenAt 0 = .ok (.aload_n 0, 1) := by decide +kernel
theorem dSq_chosenAt_1 : decode cSq_chosenAt 1 = .ok (.getfield 57, 3) := by decide +kernel
theorem dSq_chosenAt_4 : decode cSq_chosenAt 4 = .ok (.lookupswitch 55 #[(0, 36), (1, 38), (5, 45)], 36) := by decide +kernel
theorem dSq_chosenAt_40 : decode cSq_chosenAt 40 = .ok (.iload_n 1, 1) := by decide +kernel
theorem dSq_chosenAt_41 : decode cSq_chosenAt 41 = .ok (.ireturn, 1) := by decide +kernel
theorem dSq_chosenAt_42 : decode cSq_chosenAt 42 = .ok (.aload_n 0, 1) := by decide +kernel
theorem dSq_chosenAt_43 : decode cSq_chosenAt 43 = .ok (.getfield 9, 3) := by decide +kernel
theorem dSq_chosenAt_46 : decode cSq_chosenAt 46 = .ok (.iload_n 1, 1) := by decide +kernel
theorem dSq_chosenAt_47 : decode cSq_chosenAt 47 = .ok (.iaload, 1) := by decide +kernel
theorem dSq_chosenAt_48 : decode cSq_chosenAt 48 = .ok (.ireturn, 1) := by decide +kernel
theorem dSq_chosenAt_49 : decode cSq_chosenAt 49 = .ok (.aload_n 0, 1) := by decide +kernel
theorem dSq_chosenAt_50 : decode cSq_chosenAt 50 = .ok (.getfield 30, 3) := by decide +kernel
theorem dSq_chosenAt_53 : decode cSq_chosenAt 53 = .ok (.getfield 70, 3) := by decide +kernel
theorem dSq_chosenAt_56 : decode cSq_chosenAt 56 = .ok (.iload_n 1, 1) := by decide +kernel
theorem dSq_chosenAt_57 : decode cSq_chosenAt 57 = .ok (.iaload, 1) := by decide +kernel
theorem dSq_chosenAt_58 : decode cSq_chosenAt 58 = .ok (.ireturn, 1) := by decide +kernel
theorem dSq_chosenAt_59 : decode cSq_chosenAt 59 = .ok (.aload_n 0, 1) := by decide +kernel
theorem dSq_chosenAt_60 : decode cSq_chosenAt 60 = .ok (.iload_n 2, 1) := by decide +kernel
theorem dSq_chosenAt_61 : decode cSq_chosenAt 61 = .ok (.invokevirtual 73, 3) := by decide +kernel
theorem dSq_chosenAt_64 : decode cSq_chosenAt 64 = .ok (.ireturn, 1) := by decide +kernel
abbrev cSq_cheapest : ByteArray := prog_6_method_7_code
def ySq_cheapest : MethodName := ⟨RSq, "cheapest", "(I)I"⟩
theorem dSq_cheapest_0 : decode cSq_cheapest 0 = .ok (.iconst 0, 1) := by decide +kernel
theorem dSq_cheapest_1 : decode cSq_cheapest 1 = .ok (.istore_n 2, 1) := by decide +kernel
theorem dSq_cheapest_2 : decode cSq_cheapest 2 = .ok (.ldc 79, 2) := by decide +kernel
theorem dSq_cheapest_4 : decode cSq_cheapest 4 = .ok (.istore_n 3, 1) := by decide +kernel
theorem dSq_cheapest_5 : decode cSq_cheapest 5 = .ok (.iconst 0, 1) := by decide +kernel
theorem dSq_cheapest_6 : decode cSq_cheapest 6 = .ok (.istore 4, 2) := by decide +kernel
theorem dSq_cheapest_8 : decode cSq_cheapest 8 = .ok (.iload 4, 2) := by decide +kernel
theorem dSq_cheapest_10 : decode cSq_cheapest 10 = .ok (.aload_n 0, 1) := by decide +kernel
theorem dSq_cheapest_11 : decode cSq_cheapest 11 = .ok (.getfield 21, 3) := by decide +kernel
theorem dSq_cheapest_14 : decode cSq_cheapest 14 = .ok (.getfield 40, 3) := by decide +kernel
theorem dSq_cheapest_17 : decode cSq_cheapest 17 = .ok (.if_icmp .ge 43, 3) := by decide +kernel
theorem dSq_cheapest_20 : decode cSq_cheapest 20 = .ok (.iload_n 1, 1) := by decide +kernel
theorem dSq_cheapest_21 : decode cSq_cheapest 21 = .ok (.iconst 1, 1) := by decide +kernel
theorem dSq_cheapest_22 : decode cSq_cheapest 22 = .ok (.iload 4, 2) := by decide +kernel
theorem dSq_cheapest_24 : decode cSq_cheapest 24 = .ok (.ishl, 1) := by decide +kernel
theorem dSq_cheapest_25 : decode cSq_cheapest 25 = .ok (.iand, 1) := by decide +kernel
theorem dSq_cheapest_26 : decode cSq_cheapest 26 = .ok (.ifCond .eq 7, 3) := by decide +kernel
theorem dSq_cheapest_29 : decode cSq_cheapest 29 = .ok (.iload_n 3, 1) := by decide +kernel
theorem dSq_cheapest_30 : decode cSq_cheapest 30 = .ok (.goto 10, 3) := by decide +kernel
theorem dSq_cheapest_33 : decode cSq_cheapest 33 = .ok (.aload_n 0, 1) := by decide +kernel
theorem dSq_cheapest_34 : decode cSq_cheapest 34 = .ok (.iload 4, 2) := by decide +kernel
theorem dSq_cheapest_36 : decode cSq_cheapest 36 = .ok (.iload_n 1, 1) := by decide +kernel
theorem dSq_cheapest_37 : decode cSq_cheapest 37 = .ok (.invokevirtual 80, 3) := by decide +kernel
theorem dSq_cheapest_40 : decode cSq_cheapest 40 = .ok (.istore 5, 2) := by decide +kernel
theorem dSq_cheapest_42 : decode cSq_cheapest 42 = .ok (.iload 5, 2) := by decide +kernel
theorem dSq_cheapest_44 : decode cSq_cheapest 44 = .ok (.iload_n 3, 1) := by decide +kernel
theorem dSq_cheapest_45 : decode cSq_cheapest 45 = .ok (.if_icmp .ge 9, 3) := by decide +kernel
theorem dSq_cheapest_48 : decode cSq_cheapest 48 = .ok (.iload 5, 2) := by decide +kernel
theorem dSq_cheapest_50 : decode cSq_cheapest 50 = .ok (.istore_n 3, 1) := by decide +kernel
theorem dSq_cheapest_51 : decode cSq_cheapest 51 = .ok (.iload 4, 2) := by decide +kernel
theorem dSq_cheapest_53 : decode cSq_cheapest 53 = .ok (.istore_n 2, 1) := by decide +kernel
theorem dSq_cheapest_54 : decode cSq_cheapest 54 = .ok (.iinc 4 1, 3) := by decide +kernel
theorem dSq_cheapest_57 : decode cSq_cheapest 57 = .ok (.goto (-49), 3) := by decide +kernel
theorem dSq_cheapest_60 : decode cSq_cheapest 60 = .ok (.iload_n 2, 1) := by decide +kernel
theorem dSq_cheapest_61 : decode cSq_cheapest 61 = .ok (.ireturn, 1) := by decide +kernel
abbrev cSq_costOf : ByteArray := prog_6_method_8_code
def ySq_costOf : MethodName := ⟨RSq, "costOf", "(II)I"⟩
theorem dSq_costOf_0 : decode cSq_costOf 0 = .ok (.aload_n 0, 1) := by decide +kernel
theorem dSq_costOf_1 : decode cSq_costOf 1 = .ok (.getfield 21, 3) := by decide +kernel
theorem dSq_costOf_4 : decode cSq_costOf 4 = .ok (.iload_n 1, 1) := by decide +kernel
theorem dSq_costOf_5 : decode cSq_costOf 5 = .ok (.iload_n 2, 1) := by decide +kernel
theorem dSq_costOf_6 : decode cSq_costOf 6 = .ok (.invokevirtual 83, 3) := by decide +kernel
theorem dSq_costOf_9 : decode cSq_costOf 9 = .ok (.istore_n 3, 1) := by decide +kernel
theorem dSq_costOf_10 : decode cSq_costOf 10 = .ok (.aload_n 0, 1) := by decide +kernel
theorem dSq_costOf_11 : decode cSq_costOf 11 = .ok (.getfield 57, 3) := by decide +kernel
theorem dSq_costOf_14 : decode cSq_costOf 14 = .ok (.tableswitch 41 2 4 #[26, 31, 41], 26) := by decide +kernel
theorem dSq_costOf_40 : decode cSq_costOf 40 = .ok (.iload_n 3, 1) := by decide +kernel
theorem dSq_costOf_41 : decode cSq_costOf 41 = .ok (.invokestatic 86, 3) := by decide +kernel
theorem dSq_costOf_44 : decode cSq_costOf 44 = .ok (.ireturn, 1) := by decide +kernel
theorem dSq_costOf_45 : decode cSq_costOf 45 = .ok (.aload_n 0, 1) := by decide +kernel
theorem dSq_costOf_46 : decode cSq_costOf 46 = .ok (.getfield 21, 3) := by decide +kernel
theorem dSq_costOf_49 : decode cSq_costOf 49 = .ok (.iload_n 3, 1) := by decide +kernel
theorem dSq_costOf_50 : decode cSq_costOf 50 = .ok (.iload_n 2, 1) := by decide +kernel
theorem dSq_costOf_51 : decode cSq_costOf 51 = .ok (.invokevirtual 89, 3) := by decide +kernel
theorem dSq_costOf_54 : decode cSq_costOf 54 = .ok (.ireturn, 1) := by decide +kernel
theorem dSq_costOf_55 : decode cSq_costOf 55 = .ok (.aload_n 0, 1) := by decide +kernel
theorem dSq_costOf_56 : decode cSq_costOf 56 = .ok (.getfield 21, 3) := by decide +kernel
theorem dSq_costOf_59 : decode cSq_costOf 59 = .ok (.iload_n 3, 1) := by decide +kernel
theorem dSq_costOf_60 : decode cSq_costOf 60 = .ok (.invokevirtual 92, 3) := by decide +kernel
theorem dSq_costOf_63 : decode cSq_costOf 63 = .ok (.ireturn, 1) := by decide +kernel
abbrev cSq_takeAllOut : ByteArray := prog_6_method_9_code
def ySq_takeAllOut : MethodName := ⟨RSq, "takeAllOut", "()V"⟩
theorem dSq_takeAllOut_0 : decode cSq_takeAllOut 0 = .ok (.aload_n 0, 1) := by decide +kernel
theorem dSq_takeAllOut_1 : decode cSq_takeAllOut 1 = .ok (.iconst (-1), 1) := by decide +kernel
theorem dSq_takeAllOut_2 : decode cSq_takeAllOut 2 = .ok (.putfield 95, 3) := by decide +kernel
theorem dSq_takeAllOut_5 : decode cSq_takeAllOut 5 = .ok (.aload_n 0, 1) := by decide +kernel
theorem dSq_takeAllOut_6 : decode cSq_takeAllOut 6 = .ok (.iconst 0, 1) := by decide +kernel
theorem dSq_takeAllOut_7 : decode cSq_takeAllOut 7 = .ok (.putfield 98, 3) := by decide +kernel
theorem dSq_takeAllOut_10 : decode cSq_takeAllOut 10 = .ok (.aload_n 0, 1) := by decide +kernel
theorem dSq_takeAllOut_11 : decode cSq_takeAllOut 11 = .ok (.iconst 0, 1) := by decide +kernel
theorem dSq_takeAllOut_12 : decode cSq_takeAllOut 12 = .ok (.putfield 101, 3) := by decide +kernel
theorem dSq_takeAllOut_15 : decode cSq_takeAllOut 15 = .ok (.aload_n 0, 1) := by decide +kernel
theorem dSq_takeAllOut_16 : decode cSq_takeAllOut 16 = .ok (.iconst 0, 1) := by decide +kernel
theorem dSq_takeAllOut_17 : decode cSq_takeAllOut 17 = .ok (.putfield 104, 3) := by decide +kernel
theorem dSq_takeAllOut_20 : decode cSq_takeAllOut 20 = .ok (.iconst 0, 1) := by decide +kernel
theorem dSq_takeAllOut_21 : decode cSq_takeAllOut 21 = .ok (.istore_n 1, 1) := by decide +kernel
theorem dSq_takeAllOut_22 : decode cSq_takeAllOut 22 = .ok (.iconst 0, 1) := by decide +kernel
theorem dSq_takeAllOut_23 : decode cSq_takeAllOut 23 = .ok (.istore_n 2, 1) := by decide +kernel
theorem dSq_takeAllOut_24 : decode cSq_takeAllOut 24 = .ok (.iload_n 2, 1) := by decide +kernel
theorem dSq_takeAllOut_25 : decode cSq_takeAllOut 25 = .ok (.aload_n 0, 1) := by decide +kernel
theorem dSq_takeAllOut_26 : decode cSq_takeAllOut 26 = .ok (.getfield 21, 3) := by decide +kernel
theorem dSq_takeAllOut_29 : decode cSq_takeAllOut 29 = .ok (.getfield 40, 3) := by decide +kernel
theorem dSq_takeAllOut_32 : decode cSq_takeAllOut 32 = .ok (.if_icmp .ge 111, 3) := by decide +kernel
theorem dSq_takeAllOut_35 : decode cSq_takeAllOut 35 = .ok (.aload_n 0, 1) := by decide +kernel
theorem dSq_takeAllOut_36 : decode cSq_takeAllOut 36 = .ok (.getfield 21, 3) := by decide +kernel
theorem dSq_takeAllOut_39 : decode cSq_takeAllOut 39 = .ok (.aload_n 0, 1) := by decide +kernel
theorem dSq_takeAllOut_40 : decode cSq_takeAllOut 40 = .ok (.getfield 15, 3) := by decide +kernel
theorem dSq_takeAllOut_43 : decode cSq_takeAllOut 43 = .ok (.iload_n 2, 1) := by decide +kernel
theorem dSq_takeAllOut_44 : decode cSq_takeAllOut 44 = .ok (.iaload, 1) := by decide +kernel
theorem dSq_takeAllOut_45 : decode cSq_takeAllOut 45 = .ok (.iload_n 1, 1) := by decide +kernel
theorem dSq_takeAllOut_46 : decode cSq_takeAllOut 46 = .ok (.invokevirtual 83, 3) := by decide +kernel
theorem dSq_takeAllOut_49 : decode cSq_takeAllOut 49 = .ok (.istore_n 3, 1) := by decide +kernel
theorem dSq_takeAllOut_50 : decode cSq_takeAllOut 50 = .ok (.aload_n 0, 1) := by decide +kernel
theorem dSq_takeAllOut_51 : decode cSq_takeAllOut 51 = .ok (.getfield 21, 3) := by decide +kernel
theorem dSq_takeAllOut_54 : decode cSq_takeAllOut 54 = .ok (.iload_n 3, 1) := by decide +kernel
theorem dSq_takeAllOut_55 : decode cSq_takeAllOut 55 = .ok (.invokevirtual 92, 3) := by decide +kernel
theorem dSq_takeAllOut_58 : decode cSq_takeAllOut 58 = .ok (.istore 4, 2) := by decide +kernel
theorem dSq_takeAllOut_60 : decode cSq_takeAllOut 60 = .ok (.aload_n 0, 1) := by decide +kernel
theorem dSq_takeAllOut_61 : decode cSq_takeAllOut 61 = .ok (.getfield 18, 3) := by decide +kernel
theorem dSq_takeAllOut_64 : decode cSq_takeAllOut 64 = .ok (.iload_n 2, 1) := by decide +kernel
theorem dSq_takeAllOut_65 : decode cSq_takeAllOut 65 = .ok (.iload_n 3, 1) := by decide +kernel
theorem dSq_takeAllOut_66 : decode cSq_takeAllOut 66 = .ok (.iastore, 1) := by decide +kernel
theorem dSq_takeAllOut_67 : decode cSq_takeAllOut 67 = .ok (.aload_n 0, 1) := by decide +kernel
theorem dSq_takeAllOut_68 : decode cSq_takeAllOut 68 = .ok (.aload_n 0, 1) := by decide +kernel
theorem dSq_takeAllOut_69 : decode cSq_takeAllOut 69 = .ok (.getfield 95, 3) := by decide +kernel
theorem dSq_takeAllOut_72 : decode cSq_takeAllOut 72 = .ok (.iload_n 3, 1) := by decide +kernel
theorem dSq_takeAllOut_73 : decode cSq_takeAllOut 73 = .ok (.invokestatic 86, 3) := by decide +kernel
theorem dSq_takeAllOut_76 : decode cSq_takeAllOut 76 = .ok (.iconst 1, 1) := by decide +kernel
theorem dSq_takeAllOut_77 : decode cSq_takeAllOut 77 = .ok (.isub, 1) := by decide +kernel
theorem dSq_takeAllOut_78 : decode cSq_takeAllOut 78 = .ok (.invokestatic 107, 3) := by decide +kernel
theorem dSq_takeAllOut_81 : decode cSq_takeAllOut 81 = .ok (.putfield 95, 3) := by decide +kernel
theorem dSq_takeAllOut_84 : decode cSq_takeAllOut 84 = .ok (.aload_n 0, 1) := by decide +kernel
theorem dSq_takeAllOut_85 : decode cSq_takeAllOut 85 = .ok (.dup, 1) := by decide +kernel
theorem dSq_takeAllOut_86 : decode cSq_takeAllOut 86 = .ok (.getfield 98, 3) := by decide +kernel
theorem dSq_takeAllOut_89 : decode cSq_takeAllOut 89 = .ok (.aload_n 0, 1) := by decide +kernel
theorem dSq_takeAllOut_90 : decode cSq_takeAllOut 90 = .ok (.getfield 21, 3) := by decide +kernel
theorem dSq_takeAllOut_93 : decode cSq_takeAllOut 93 = .ok (.iload_n 3, 1) := by decide +kernel
theorem dSq_takeAllOut_94 : decode cSq_takeAllOut 94 = .ok (.iload_n 1, 1) := by decide +kernel
theorem dSq_takeAllOut_95 : decode cSq_takeAllOut 95 = .ok (.invokevirtual 89, 3) := by decide +kernel
theorem dSq_takeAllOut_98 : decode cSq_takeAllOut 98 = .ok (.iadd, 1) := by decide +kernel
theorem dSq_takeAllOut_99 : decode cSq_takeAllOut 99 = .ok (.putfield 98, 3) := by decide +kernel
theorem dSq_takeAllOut_102 : decode cSq_takeAllOut 102 = .ok (.aload_n 0, 1) := by decide +kernel
theorem dSq_takeAllOut_103 : decode cSq_takeAllOut 103 = .ok (.dup, 1) := by decide +kernel
theorem dSq_takeAllOut_104 : decode cSq_takeAllOut 104 = .ok (.getfield 101, 3) := by decide +kernel
theorem dSq_takeAllOut_107 : decode cSq_takeAllOut 107 = .ok (.iload 4, 2) := by decide +kernel
theorem dSq_takeAllOut_109 : decode cSq_takeAllOut 109 = .ok (.iadd, 1) := by decide +kernel
theorem dSq_takeAllOut_110 : decode cSq_takeAllOut 110 = .ok (.putfield 101, 3) := by decide +kernel
theorem dSq_takeAllOut_113 : decode cSq_takeAllOut 113 = .ok (.aload_n 0, 1) := by decide +kernel
theorem dSq_takeAllOut_114 : decode cSq_takeAllOut 114 = .ok (.aload_n 0, 1) := by decide +kernel
theorem dSq_takeAllOut_115 : decode cSq_takeAllOut 115 = .ok (.getfield 104, 3) := by decide +kernel
theorem dSq_takeAllOut_118 : decode cSq_takeAllOut 118 = .ok (.iload 4, 2) := by decide +kernel
theorem dSq_takeAllOut_120 : decode cSq_takeAllOut 120 = .ok (.invokestatic 107, 3) := by decide +kernel
theorem dSq_takeAllOut_123 : decode cSq_takeAllOut 123 = .ok (.putfield 104, 3) := by decide +kernel
theorem dSq_takeAllOut_126 : decode cSq_takeAllOut 126 = .ok (.iload_n 1, 1) := by decide +kernel
theorem dSq_takeAllOut_127 : decode cSq_takeAllOut 127 = .ok (.iconst 1, 1) := by decide +kernel
theorem dSq_takeAllOut_128 : decode cSq_takeAllOut 128 = .ok (.aload_n 0, 1) := by decide +kernel
theorem dSq_takeAllOut_129 : decode cSq_takeAllOut 129 = .ok (.getfield 15, 3) := by decide +kernel
theorem dSq_takeAllOut_132 : decode cSq_takeAllOut 132 = .ok (.iload_n 2, 1) := by decide +kernel
theorem dSq_takeAllOut_133 : decode cSq_takeAllOut 133 = .ok (.iaload, 1) := by decide +kernel
theorem dSq_takeAllOut_134 : decode cSq_takeAllOut 134 = .ok (.ishl, 1) := by decide +kernel
theorem dSq_takeAllOut_135 : decode cSq_takeAllOut 135 = .ok (.ior, 1) := by decide +kernel
theorem dSq_takeAllOut_136 : decode cSq_takeAllOut 136 = .ok (.istore_n 1, 1) := by decide +kernel
theorem dSq_takeAllOut_137 : decode cSq_takeAllOut 137 = .ok (.iinc 2 1, 3) := by decide +kernel
theorem dSq_takeAllOut_140 : decode cSq_takeAllOut 140 = .ok (.goto (-116), 3) := by decide +kernel
theorem dSq_takeAllOut_143 : decode cSq_takeAllOut 143 = .ok (.aload_n 0, 1) := by decide +kernel
theorem dSq_takeAllOut_144 : decode cSq_takeAllOut 144 = .ok (.iconst 1, 1) := by decide +kernel
theorem dSq_takeAllOut_145 : decode cSq_takeAllOut 145 = .ok (.putfield 50, 3) := by decide +kernel
theorem dSq_takeAllOut_148 : decode cSq_takeAllOut 148 = .ok (.return_, 1) := by decide +kernel
abbrev cSq_parentOf : ByteArray := prog_6_method_10_code
def ySq_parentOf : MethodName := ⟨RSq, "parentOf", "(I)I"⟩
theorem dSq_parentOf_0 : decode cSq_parentOf 0 = .ok (.iload_n 1, 1) := by decide +kernel
theorem dSq_parentOf_1 : decode cSq_parentOf 1 = .ok (.iconst 1, 1) := by decide +kernel
theorem dSq_parentOf_2 : decode cSq_parentOf 2 = .ok (.iadd, 1) := by decide +kernel
theorem dSq_parentOf_3 : decode cSq_parentOf 3 = .ok (.istore_n 2, 1) := by decide +kernel
theorem dSq_parentOf_4 : decode cSq_parentOf 4 = .ok (.iload_n 2, 1) := by decide +kernel
theorem dSq_parentOf_5 : decode cSq_parentOf 5 = .ok (.aload_n 0, 1) := by decide +kernel
theorem dSq_parentOf_6 : decode cSq_parentOf 6 = .ok (.getfield 21, 3) := by decide +kernel
theorem dSq_parentOf_9 : decode cSq_parentOf 9 = .ok (.getfield 40, 3) := by decide +kernel
theorem dSq_parentOf_12 : decode cSq_parentOf 12 = .ok (.if_icmp .ge 29, 3) := by decide +kernel
theorem dSq_parentOf_15 : decode cSq_parentOf 15 = .ok (.aload_n 0, 1) := by decide +kernel
theorem dSq_parentOf_16 : decode cSq_parentOf 16 = .ok (.getfield 18, 3) := by decide +kernel
theorem dSq_parentOf_19 : decode cSq_parentOf 19 = .ok (.iload_n 1, 1) := by decide +kernel
theorem dSq_parentOf_20 : decode cSq_parentOf 20 = .ok (.iaload, 1) := by decide +kernel
theorem dSq_parentOf_21 : decode cSq_parentOf 21 = .ok (.iconst 1, 1) := by decide +kernel
theorem dSq_parentOf_22 : decode cSq_parentOf 22 = .ok (.aload_n 0, 1) := by decide +kernel
theorem dSq_parentOf_23 : decode cSq_parentOf 23 = .ok (.getfield 15, 3) := by decide +kernel
theorem dSq_parentOf_26 : decode cSq_parentOf 26 = .ok (.iload_n 2, 1) := by decide +kernel
theorem dSq_parentOf_27 : decode cSq_parentOf 27 = .ok (.iaload, 1) := by decide +kernel
theorem dSq_parentOf_28 : decode cSq_parentOf 28 = .ok (.ishl, 1) := by decide +kernel
theorem dSq_parentOf_29 : decode cSq_parentOf 29 = .ok (.iand, 1) := by decide +kernel
theorem dSq_parentOf_30 : decode cSq_parentOf 30 = .ok (.ifCond .eq 5, 3) := by decide +kernel
theorem dSq_parentOf_33 : decode cSq_parentOf 33 = .ok (.iload_n 2, 1) := by decide +kernel
theorem dSq_parentOf_34 : decode cSq_parentOf 34 = .ok (.ireturn, 1) := by decide +kernel
theorem dSq_parentOf_35 : decode cSq_parentOf 35 = .ok (.iinc 2 1, 3) := by decide +kernel
theorem dSq_parentOf_38 : decode cSq_parentOf 38 = .ok (.goto (-34), 3) := by decide +kernel
theorem dSq_parentOf_41 : decode cSq_parentOf 41 = .ok (.iconst (-1), 1) := by decide +kernel
theorem dSq_parentOf_42 : decode cSq_parentOf 42 = .ok (.ireturn, 1) := by decide +kernel
end
section
abbrev cWe_init : ByteArray := prog_7_method_1_code
def yWe_init : MethodName := ⟨RWe, "<init>", "(LTableOrders$Graph;LTableOrders$Factors;)V"⟩
theorem dWe_init_0 : decode cWe_init 0 = .ok (.aload_n 0, 1) := by decide +kernel
theorem dWe_init_1 : decode cWe_init 1 = .ok (.invokespecial 3, 3) := by decide +kernel
theorem dWe_init_4 : decode cWe_init 4 = .ok (.aload_n 0, 1) := by decide +kernel
theorem dWe_init_5 : decode cWe_init 5 = .ok (.bipush 12, 2) := by decide +kernel
theorem dWe_init_7 : decode cWe_init 7 = .ok (.newarray .int, 2) := by decide +kernel
theorem dWe_init_9 : decode cWe_init 9 = .ok (.putfield 9, 3) := by decide +kernel
theorem dWe_init_12 : decode cWe_init 12 = .ok (.aload_n 0, 1) := by decide +kernel
theorem dWe_init_13 : decode cWe_init 13 = .ok (.bipush 12, 2) := by decide +kernel
theorem dWe_init_15 : decode cWe_init 15 = .ok (.newarray .int, 2) := by decide +kernel
theorem dWe_init_17 : decode cWe_init 17 = .ok (.putfield 15, 3) := by decide +kernel
theorem dWe_init_20 : decode cWe_init 20 = .ok (.aload_n 0, 1) := by decide +kernel
theorem dWe_init_21 : decode cWe_init 21 = .ok (.bipush 48, 2) := by decide +kernel
theorem dWe_init_23 : decode cWe_init 23 = .ok (.newarray .long, 2) := by decide +kernel
theorem dWe_init_25 : decode cWe_init 25 = .ok (.putfield 18, 3) := by decide +kernel
theorem dWe_init_28 : decode cWe_init 28 = .ok (.aload_n 0, 1) := by decide +kernel
theorem dWe_init_29 : decode cWe_init 29 = .ok (.iconst 0, 1) := by decide +kernel
theorem dWe_init_30 : decode cWe_init 30 = .ok (.newarray .long, 2) := by decide +kernel
theorem dWe_init_32 : decode cWe_init 32 = .ok (.putfield 22, 3) := by decide +kernel
theorem dWe_init_35 : decode cWe_init 35 = .ok (.aload_n 0, 1) := by decide +kernel
theorem dWe_init_36 : decode cWe_init 36 = .ok (.bipush 24, 2) := by decide +kernel
theorem dWe_init_38 : decode cWe_init 38 = .ok (.newarray .long, 2) := by decide +kernel
theorem dWe_init_40 : decode cWe_init 40 = .ok (.putfield 25, 3) := by decide +kernel
theorem dWe_init_43 : decode cWe_init 43 = .ok (.aload_n 0, 1) := by decide +kernel
theorem dWe_init_44 : decode cWe_init 44 = .ok (.bipush 24, 2) := by decide +kernel
theorem dWe_init_46 : decode cWe_init 46 = .ok (.newarray .int, 2) := by decide +kernel
theorem dWe_init_48 : decode cWe_init 48 = .ok (.putfield 28, 3) := by decide +kernel
theorem dWe_init_51 : decode cWe_init 51 = .ok (.aload_n 0, 1) := by decide +kernel
theorem dWe_init_52 : decode cWe_init 52 = .ok (.aload_n 1, 1) := by decide +kernel
theorem dWe_init_53 : decode cWe_init 53 = .ok (.putfield 31, 3) := by decide +kernel
theorem dWe_init_56 : decode cWe_init 56 = .ok (.aload_n 0, 1) := by decide +kernel
theorem dWe_init_57 : decode cWe_init 57 = .ok (.aload_n 2, 1) := by decide +kernel
theorem dWe_init_58 : decode cWe_init 58 = .ok (.putfield 35, 3) := by decide +kernel
theorem dWe_init_61 : decode cWe_init 61 = .ok (.aload_n 0, 1) := by decide +kernel
theorem dWe_init_62 : decode cWe_init 62 = .ok (.getfield 9, 3) := by decide +kernel
theorem dWe_init_65 : decode cWe_init 65 = .ok (.iconst (-1), 1) := by decide +kernel
theorem dWe_init_66 : decode cWe_init 66 = .ok (.invokestatic 39, 3) := by decide +kernel
theorem dWe_init_69 : decode cWe_init 69 = .ok (.return_, 1) := by decide +kernel
abbrev cWe_forget : ByteArray := prog_7_method_2_code
def yWe_forget : MethodName := ⟨RWe, "forget", "()V"⟩
theorem dWe_forget_0 : decode cWe_forget 0 = .ok (.aload_n 0, 1) := by decide +kernel
theorem dWe_forget_1 : decode cWe_forget 1 = .ok (.iconst 0, 1) := by decide +kernel
theorem dWe_forget_2 : decode cWe_forget 2 = .ok (.putfield 45, 3) := by decide +kernel
theorem dWe_forget_5 : decode cWe_forget 5 = .ok (.return_, 1) := by decide +kernel
abbrev cWe_weightOf : ByteArray := prog_7_method_3_code
def yWe_weightOf : MethodName := ⟨RWe, "weightOf", "(I)J"⟩
theorem dWe_weightOf_0 : decode cWe_weightOf 0 = .ok (.iconst 0, 1) := by decide +kernel
theorem dWe_weightOf_1 : decode cWe_weightOf 1 = .ok (.istore_n 2, 1) := by decide +kernel
theorem dWe_weightOf_2 : decode cWe_weightOf 2 = .ok (.iload_n 2, 1) := by decide +kernel
theorem dWe_weightOf_3 : decode cWe_weightOf 3 = .ok (.aload_n 0, 1) := by decide +kernel
theorem dWe_weightOf_4 : decode cWe_weightOf 4 = .ok (.getfield 31, 3) := by decide +kernel
theorem dWe_weightOf_7 : decode cWe_weightOf 7 = .ok (.getfield 49, 3) := by decide +kernel
theorem dWe_weightOf_10 : decode cWe_weightOf 10 = .ok (.if_icmp .ge 48, 3) := by decide +kernel
theorem dWe_weightOf_13 : decode cWe_weightOf 13 = .ok (.aload_n 0, 1) := by decide +kernel
theorem dWe_weightOf_14 : decode cWe_weightOf 14 = .ok (.getfield 31, 3) := by decide +kernel
theorem dWe_weightOf_17 : decode cWe_weightOf 17 = .ok (.iload_n 1, 1) := by decide +kernel
theorem dWe_weightOf_18 : decode cWe_weightOf 18 = .ok (.iload_n 2, 1) := by decide +kernel
theorem dWe_weightOf_19 : decode cWe_weightOf 19 = .ok (.invokevirtual 55, 3) := by decide +kernel
theorem dWe_weightOf_22 : decode cWe_weightOf 22 = .ok (.istore_n 3, 1) := by decide +kernel
theorem dWe_weightOf_23 : decode cWe_weightOf 23 = .ok (.aload_n 0, 1) := by decide +kernel
theorem dWe_weightOf_24 : decode cWe_weightOf 24 = .ok (.getfield 9, 3) := by decide +kernel
theorem dWe_weightOf_27 : decode cWe_weightOf 27 = .ok (.iload_n 2, 1) := by decide +kernel
theorem dWe_weightOf_28 : decode cWe_weightOf 28 = .ok (.iaload, 1) := by decide +kernel
theorem dWe_weightOf_29 : decode cWe_weightOf 29 = .ok (.iconst (-1), 1) := by decide +kernel
theorem dWe_weightOf_30 : decode cWe_weightOf 30 = .ok (.if_icmp .eq 15, 3) := by decide +kernel
theorem dWe_weightOf_33 : decode cWe_weightOf 33 = .ok (.aload_n 0, 1) := by decide +kernel
theorem dWe_weightOf_34 : decode cWe_weightOf 34 = .ok (.getfield 9, 3) := by decide +kernel
theorem dWe_weightOf_37 : decode cWe_weightOf 37 = .ok (.iload_n 2, 1) := by decide +kernel
theorem dWe_weightOf_38 : decode cWe_weightOf 38 = .ok (.iaload, 1) := by decide +kernel
theorem dWe_weightOf_39 : decode cWe_weightOf 39 = .ok (.iload_n 3, 1) := by decide +kernel
theorem dWe_weightOf_40 : decode cWe_weightOf 40 = .ok (.if_icmp .eq 5, 3) := by decide +kernel
theorem dWe_weightOf_43 : decode cWe_weightOf 43 = .ok (.lconst 0, 1) := by decide +kernel
theorem dWe_weightOf_44 : decode cWe_weightOf 44 = .ok (.lreturn, 1) := by decide +kernel
theorem dWe_weightOf_45 : decode cWe_weightOf 45 = .ok (.aload_n 0, 1) := by decide +kernel
theorem dWe_weightOf_46 : decode cWe_weightOf 46 = .ok (.getfield 15, 3) := by decide +kernel
theorem dWe_weightOf_49 : decode cWe_weightOf 49 = .ok (.iload_n 2, 1) := by decide +kernel
theorem dWe_weightOf_50 : decode cWe_weightOf 50 = .ok (.iload_n 3, 1) := by decide +kernel
theorem dWe_weightOf_51 : decode cWe_weightOf 51 = .ok (.iastore, 1) := by decide +kernel
theorem dWe_weightOf_52 : decode cWe_weightOf 52 = .ok (.iinc 2 1, 3) := by decide +kernel
theorem dWe_weightOf_55 : decode cWe_weightOf 55 = .ok (.goto (-53), 3) := by decide +kernel
theorem dWe_weightOf_58 : decode cWe_weightOf 58 = .ok (.aload_n 0, 1) := by decide +kernel
theorem dWe_weightOf_59 : decode cWe_weightOf 59 = .ok (.getfield 35, 3) := by decide +kernel
theorem dWe_weightOf_62 : decode cWe_weightOf 62 = .ok (.aload_n 0, 1) := by decide +kernel
theorem dWe_weightOf_63 : decode cWe_weightOf 63 = .ok (.getfield 15, 3) := by decide +kernel
theorem dWe_weightOf_66 : decode cWe_weightOf 66 = .ok (.invokevirtual 59, 3) := by decide +kernel
theorem dWe_weightOf_69 : decode cWe_weightOf 69 = .ok (.lreturn, 1) := by decide +kernel
abbrev cWe_refresh : ByteArray := prog_7_method_4_code
def yWe_refresh : MethodName := ⟨RWe, "refresh", "()V"⟩
theorem dWe_refresh_0 : decode cWe_refresh 0 = .ok (.aload_n 0, 1) := by decide +kernel
theorem dWe_refresh_1 : decode cWe_refresh 1 = .ok (.getfield 45, 3) := by decide +kernel
theorem dWe_refresh_4 : decode cWe_refresh 4 = .ok (.ifCond .eq 4, 3) := by decide +kernel
theorem dWe_refresh_7 : decode cWe_refresh 7 = .ok (.return_, 1) := by decide +kernel
theorem dWe_refresh_8 : decode cWe_refresh 8 = .ok (.aload_n 0, 1) := by decide +kernel
theorem dWe_refresh_9 : decode cWe_refresh 9 = .ok (.getfield 22, 3) := by decide +kernel
theorem dWe_refresh_12 : decode cWe_refresh 12 = .ok (.arraylength, 1) := by decide +kernel
theorem dWe_refresh_13 : decode cWe_refresh 13 = .ok (.aload_n 0, 1) := by decide +kernel
theorem dWe_refresh_14 : decode cWe_refresh 14 = .ok (.getfield 31, 3) := by decide +kernel
theorem dWe_refresh_17 : decode cWe_refresh 17 = .ok (.getfield 65, 3) := by decide +kernel
theorem dWe_refresh_20 : decode cWe_refresh 20 = .ok (.if_icmp .eq 19, 3) := by decide +kernel
theorem dWe_refresh_23 : decode cWe_refresh 23 = .ok (.aload_n 0, 1) := by decide +kernel
theorem dWe_refresh_24 : decode cWe_refresh 24 = .ok (.aload_n 0, 1) := by decide +kernel
theorem dWe_refresh_25 : decode cWe_refresh 25 = .ok (.getfield 31, 3) := by decide +kernel
theorem dWe_refresh_28 : decode cWe_refresh 28 = .ok (.getfield 65, 3) := by decide +kernel
theorem dWe_refresh_31 : decode cWe_refresh 31 = .ok (.newarray .long, 2) := by decide +kernel
theorem dWe_refresh_33 : decode cWe_refresh 33 = .ok (.putfield 22, 3) := by decide +kernel
theorem dWe_refresh_36 : decode cWe_refresh 36 = .ok (.goto 11, 3) := by decide +kernel
theorem dWe_refresh_39 : decode cWe_refresh 39 = .ok (.aload_n 0, 1) := by decide +kernel
theorem dWe_refresh_40 : decode cWe_refresh 40 = .ok (.getfield 22, 3) := by decide +kernel
theorem dWe_refresh_43 : decode cWe_refresh 43 = .ok (.lconst 0, 1) := by decide +kernel
theorem dWe_refresh_44 : decode cWe_refresh 44 = .ok (.invokestatic 68, 3) := by decide +kernel
theorem dWe_refresh_47 : decode cWe_refresh 47 = .ok (.aload_n 0, 1) := by decide +kernel
theorem dWe_refresh_48 : decode cWe_refresh 48 = .ok (.iconst 0, 1) := by decide +kernel
theorem dWe_refresh_49 : decode cWe_refresh 49 = .ok (.putfield 71, 3) := by decide +kernel
theorem dWe_refresh_52 : decode cWe_refresh 52 = .ok (.aload_n 0, 1) := by decide +kernel
theorem dWe_refresh_53 : decode cWe_refresh 53 = .ok (.iconst 0, 1) := by decide +kernel
theorem dWe_refresh_54 : decode cWe_refresh 54 = .ok (.putfield 74, 3) := by decide +kernel
theorem dWe_refresh_57 : decode cWe_refresh 57 = .ok (.aload_n 0, 1) := by decide +kernel
theorem dWe_refresh_58 : decode cWe_refresh 58 = .ok (.lconst 0, 1) := by decide +kernel
theorem dWe_refresh_59 : decode cWe_refresh 59 = .ok (.putfield 77, 3) := by decide +kernel
theorem dWe_refresh_62 : decode cWe_refresh 62 = .ok (.aload_n 0, 1) := by decide +kernel
theorem dWe_refresh_63 : decode cWe_refresh 63 = .ok (.getfield 35, 3) := by decide +kernel
theorem dWe_refresh_66 : decode cWe_refresh 66 = .ok (.invokevirtual 81, 3) := by decide +kernel
theorem dWe_refresh_69 : decode cWe_refresh 69 = .ok (.lstore_n 1, 1) := by decide +kernel
theorem dWe_refresh_70 : decode cWe_refresh 70 = .ok (.lload_n 1, 1) := by decide +kernel
theorem dWe_refresh_71 : decode cWe_refresh 71 = .ok (.lconst 0, 1) := by decide +kernel
theorem dWe_refresh_72 : decode cWe_refresh 72 = .ok (.lcmp, 1) := by decide +kernel
theorem dWe_refresh_73 : decode cWe_refresh 73 = .ok (.ifCond .le 10, 3) := by decide +kernel
theorem dWe_refresh_76 : decode cWe_refresh 76 = .ok (.aload_n 0, 1) := by decide +kernel
theorem dWe_refresh_77 : decode cWe_refresh 77 = .ok (.iconst 0, 1) := by decide +kernel
theorem dWe_refresh_78 : decode cWe_refresh 78 = .ok (.iconst 0, 1) := by decide +kernel
theorem dWe_refresh_79 : decode cWe_refresh 79 = .ok (.lload_n 1, 1) := by decide +kernel
theorem dWe_refresh_80 : decode cWe_refresh 80 = .ok (.invokevirtual 85, 3) := by decide +kernel
theorem dWe_refresh_83 : decode cWe_refresh 83 = .ok (.aload_n 0, 1) := by decide +kernel
theorem dWe_refresh_84 : decode cWe_refresh 84 = .ok (.iconst 1, 1) := by decide +kernel
theorem dWe_refresh_85 : decode cWe_refresh 85 = .ok (.putfield 45, 3) := by decide +kernel
theorem dWe_refresh_88 : decode cWe_refresh 88 = .ok (.return_, 1) := by decide +kernel
abbrev cWe_choose : ByteArray := prog_7_method_5_code
def yWe_choose : MethodName := ⟨RWe, "choose", "(IIJ)V"⟩
theorem dWe_choose_0 : decode cWe_choose 0 = .ok (.iload_n 1, 1) := by decide +kernel
theorem dWe_choose_1 : decode cWe_choose 1 = .ok (.aload_n 0, 1) := by decide +kernel
theorem dWe_choose_2 : decode cWe_choose 2 = .ok (.getfield 31, 3) := by decide +kernel
theorem dWe_choose_5 : decode cWe_choose 5 = .ok (.getfield 49, 3) := by decide +kernel
theorem dWe_choose_8 : decode cWe_choose 8 = .ok (.if_icmp .lt 10, 3) := by decide +kernel
theorem dWe_choose_11 : decode cWe_choose 11 = .ok (.aload_n 0, 1) := by decide +kernel
theorem dWe_choose_12 : decode cWe_choose 12 = .ok (.iload_n 2, 1) := by decide +kernel
theorem dWe_choose_13 : decode cWe_choose 13 = .ok (.lload_n 3, 1) := by decide +kernel
theorem dWe_choose_14 : decode cWe_choose 14 = .ok (.invokevirtual 89, 3) := by decide +kernel
theorem dWe_choose_17 : decode cWe_choose 17 = .ok (.return_, 1) := by decide +kernel
theorem dWe_choose_18 : decode cWe_choose 18 = .ok (.iload_n 1, 1) := by decide +kernel
theorem dWe_choose_19 : decode cWe_choose 19 = .ok (.iconst 4, 1) := by decide +kernel
theorem dWe_choose_20 : decode cWe_choose 20 = .ok (.imul, 1) := by decide +kernel
theorem dWe_choose_21 : decode cWe_choose 21 = .ok (.istore 5, 2) := by decide +kernel
theorem dWe_choose_23 : decode cWe_choose 23 = .ok (.aload_n 0, 1) := by decide +kernel
theorem dWe_choose_24 : decode cWe_choose 24 = .ok (.getfield 31, 3) := by decide +kernel
theorem dWe_choose_27 : decode cWe_choose 27 = .ok (.getfield 93, 3) := by decide +kernel
theorem dWe_choose_30 : decode cWe_choose 30 = .ok (.iload_n 1, 1) := by decide +kernel
theorem dWe_choose_31 : decode cWe_choose 31 = .ok (.iaload, 1) := by decide +kernel
theorem dWe_choose_32 : decode cWe_choose 32 = .ok (.istore 6, 2) := by decide +kernel
theorem dWe_choose_34 : decode cWe_choose 34 = .ok (.iconst 0, 1) := by decide +kernel
theorem dWe_choose_35 : decode cWe_choose 35 = .ok (.istore 7, 2) := by decide +kernel
theorem dWe_choose_37 : decode cWe_choose 37 = .ok (.iload 7, 2) := by decide +kernel
theorem dWe_choose_39 : decode cWe_choose 39 = .ok (.iload 6, 2) := by decide +kernel
theorem dWe_choose_41 : decode cWe_choose 41 = .ok (.if_icmp .ge 45, 3) := by decide +kernel
theorem dWe_choose_44 : decode cWe_choose 44 = .ok (.aload_n 0, 1) := by decide +kernel
theorem dWe_choose_45 : decode cWe_choose 45 = .ok (.getfield 18, 3) := by decide +kernel
theorem dWe_choose_48 : decode cWe_choose 48 = .ok (.iload 5, 2) := by decide +kernel
theorem dWe_choose_50 : decode cWe_choose 50 = .ok (.iload 7, 2) := by decide +kernel
theorem dWe_choose_52 : decode cWe_choose 52 = .ok (.iadd, 1) := by decide +kernel
theorem dWe_choose_53 : decode cWe_choose 53 = .ok (.aload_n 0, 1) := by decide +kernel
theorem dWe_choose_54 : decode cWe_choose 54 = .ok (.getfield 9, 3) := by decide +kernel
theorem dWe_choose_57 : decode cWe_choose 57 = .ok (.iload_n 1, 1) := by decide +kernel
theorem dWe_choose_58 : decode cWe_choose 58 = .ok (.iaload, 1) := by decide +kernel
theorem dWe_choose_59 : decode cWe_choose 59 = .ok (.iconst (-1), 1) := by decide +kernel
theorem dWe_choose_60 : decode cWe_choose 60 = .ok (.if_icmp .eq 14, 3) := by decide +kernel
theorem dWe_choose_63 : decode cWe_choose 63 = .ok (.aload_n 0, 1) := by decide +kernel
theorem dWe_choose_64 : decode cWe_choose 64 = .ok (.getfield 9, 3) := by decide +kernel
theorem dWe_choose_67 : decode cWe_choose 67 = .ok (.iload_n 1, 1) := by decide +kernel
theorem dWe_choose_68 : decode cWe_choose 68 = .ok (.iaload, 1) := by decide +kernel
theorem dWe_choose_69 : decode cWe_choose 69 = .ok (.iload 7, 2) := by decide +kernel
theorem dWe_choose_71 : decode cWe_choose 71 = .ok (.if_icmp .ne 7, 3) := by decide +kernel
theorem dWe_choose_74 : decode cWe_choose 74 = .ok (.lload_n 3, 1) := by decide +kernel
theorem dWe_choose_75 : decode cWe_choose 75 = .ok (.goto 4, 3) := by decide +kernel
theorem dWe_choose_78 : decode cWe_choose 78 = .ok (.lconst 0, 1) := by decide +kernel
theorem dWe_choose_79 : decode cWe_choose 79 = .ok (.lastore, 1) := by decide +kernel
theorem dWe_choose_80 : decode cWe_choose 80 = .ok (.iinc 7 1, 3) := by decide +kernel
theorem dWe_choose_83 : decode cWe_choose 83 = .ok (.goto (-46), 3) := by decide +kernel
theorem dWe_choose_86 : decode cWe_choose 86 = .ok (.aload_n 0, 1) := by decide +kernel
theorem dWe_choose_87 : decode cWe_choose 87 = .ok (.getfield 15, 3) := by decide +kernel
theorem dWe_choose_90 : decode cWe_choose 90 = .ok (.iload_n 1, 1) := by decide +kernel
theorem dWe_choose_91 : decode cWe_choose 91 = .ok (.iconst 0, 1) := by decide +kernel
theorem dWe_choose_92 : decode cWe_choose 92 = .ok (.iastore, 1) := by decide +kernel
theorem dWe_choose_93 : decode cWe_choose 93 = .ok (.aload_n 0, 1) := by decide +kernel
theorem dWe_choose_94 : decode cWe_choose 94 = .ok (.getfield 35, 3) := by decide +kernel
theorem dWe_choose_97 : decode cWe_choose 97 = .ok (.iload_n 1, 1) := by decide +kernel
theorem dWe_choose_98 : decode cWe_choose 98 = .ok (.aload_n 0, 1) := by decide +kernel
theorem dWe_choose_99 : decode cWe_choose 99 = .ok (.getfield 18, 3) := by decide +kernel
theorem dWe_choose_102 : decode cWe_choose 102 = .ok (.iload 5, 2) := by decide +kernel
theorem dWe_choose_104 : decode cWe_choose 104 = .ok (.aload_n 0, 1) := by decide +kernel
theorem dWe_choose_105 : decode cWe_choose 105 = .ok (.getfield 15, 3) := by decide +kernel
theorem dWe_choose_108 : decode cWe_choose 108 = .ok (.invokevirtual 96, 3) := by decide +kernel
theorem dWe_choose_111 : decode cWe_choose 111 = .ok (.iconst 0, 1) := by decide +kernel
theorem dWe_choose_112 : decode cWe_choose 112 = .ok (.istore 7, 2) := by decide +kernel
theorem dWe_choose_114 : decode cWe_choose 114 = .ok (.iload 7, 2) := by decide +kernel
theorem dWe_choose_116 : decode cWe_choose 116 = .ok (.iload 6, 2) := by decide +kernel
theorem dWe_choose_118 : decode cWe_choose 118 = .ok (.if_icmp .ge 56, 3) := by decide +kernel
theorem dWe_choose_121 : decode cWe_choose 121 = .ok (.aload_n 0, 1) := by decide +kernel
theorem dWe_choose_122 : decode cWe_choose 122 = .ok (.getfield 18, 3) := by decide +kernel
theorem dWe_choose_125 : decode cWe_choose 125 = .ok (.iload 5, 2) := by decide +kernel
theorem dWe_choose_127 : decode cWe_choose 127 = .ok (.iload 7, 2) := by decide +kernel
theorem dWe_choose_129 : decode cWe_choose 129 = .ok (.iadd, 1) := by decide +kernel
theorem dWe_choose_130 : decode cWe_choose 130 = .ok (.laload, 1) := by decide +kernel
theorem dWe_choose_131 : decode cWe_choose 131 = .ok (.lconst 0, 1) := by decide +kernel
theorem dWe_choose_132 : decode cWe_choose 132 = .ok (.lcmp, 1) := by decide +kernel
theorem dWe_choose_133 : decode cWe_choose 133 = .ok (.ifCond .le 35, 3) := by decide +kernel
theorem dWe_choose_136 : decode cWe_choose 136 = .ok (.aload_n 0, 1) := by decide +kernel
theorem dWe_choose_137 : decode cWe_choose 137 = .ok (.getfield 15, 3) := by decide +kernel
theorem dWe_choose_140 : decode cWe_choose 140 = .ok (.iload_n 1, 1) := by decide +kernel
theorem dWe_choose_141 : decode cWe_choose 141 = .ok (.iload 7, 2) := by decide +kernel
theorem dWe_choose_143 : decode cWe_choose 143 = .ok (.iastore, 1) := by decide +kernel
theorem dWe_choose_144 : decode cWe_choose 144 = .ok (.aload_n 0, 1) := by decide +kernel
theorem dWe_choose_145 : decode cWe_choose 145 = .ok (.iload_n 1, 1) := by decide +kernel
theorem dWe_choose_146 : decode cWe_choose 146 = .ok (.iconst 1, 1) := by decide +kernel
theorem dWe_choose_147 : decode cWe_choose 147 = .ok (.iadd, 1) := by decide +kernel
theorem dWe_choose_148 : decode cWe_choose 148 = .ok (.iload_n 2, 1) := by decide +kernel
theorem dWe_choose_149 : decode cWe_choose 149 = .ok (.iload 6, 2) := by decide +kernel
theorem dWe_choose_151 : decode cWe_choose 151 = .ok (.imul, 1) := by decide +kernel
theorem dWe_choose_152 : decode cWe_choose 152 = .ok (.iload 7, 2) := by decide +kernel
theorem dWe_choose_154 : decode cWe_choose 154 = .ok (.iadd, 1) := by decide +kernel
theorem dWe_choose_155 : decode cWe_choose 155 = .ok (.aload_n 0, 1) := by decide +kernel
theorem dWe_choose_156 : decode cWe_choose 156 = .ok (.getfield 18, 3) := by decide +kernel
theorem dWe_choose_159 : decode cWe_choose 159 = .ok (.iload 5, 2) := by decide +kernel
theorem dWe_choose_161 : decode cWe_choose 161 = .ok (.iload 7, 2) := by decide +kernel
theorem dWe_choose_163 : decode cWe_choose 163 = .ok (.iadd, 1) := by decide +kernel
theorem dWe_choose_164 : decode cWe_choose 164 = .ok (.laload, 1) := by decide +kernel
theorem dWe_choose_165 : decode cWe_choose 165 = .ok (.invokevirtual 85, 3) := by decide +kernel
theorem dWe_choose_168 : decode cWe_choose 168 = .ok (.iinc 7 1, 3) := by decide +kernel
theorem dWe_choose_171 : decode cWe_choose 171 = .ok (.goto (-57), 3) := by decide +kernel
theorem dWe_choose_174 : decode cWe_choose 174 = .ok (.return_, 1) := by decide +kernel
abbrev cWe_keep : ByteArray := prog_7_method_6_code
def yWe_keep : MethodName := ⟨RWe, "keep", "(IJ)V"⟩
theorem dWe_keep_0 : decode cWe_keep 0 = .ok (.iload_n 1, 1) := by decide +kernel
theorem dWe_keep_1 : decode cWe_keep 1 = .ok (.aload_n 0, 1) := by decide +kernel
theorem dWe_keep_2 : decode cWe_keep 2 = .ok (.getfield 22, 3) := by decide +kernel
theorem dWe_keep_5 : decode cWe_keep 5 = .ok (.arraylength, 1) := by decide +kernel
theorem dWe_keep_6 : decode cWe_keep 6 = .ok (.if_icmp .ge 57, 3) := by decide +kernel
theorem dWe_keep_9 : decode cWe_keep 9 = .ok (.aload_n 0, 1) := by decide +kernel
theorem dWe_keep_10 : decode cWe_keep 10 = .ok (.getfield 22, 3) := by decide +kernel
theorem dWe_keep_13 : decode cWe_keep 13 = .ok (.iload_n 1, 1) := by decide +kernel
theorem dWe_keep_14 : decode cWe_keep 14 = .ok (.lload_n 2, 1) := by decide +kernel
theorem dWe_keep_15 : decode cWe_keep 15 = .ok (.lastore, 1) := by decide +kernel
theorem dWe_keep_16 : decode cWe_keep 16 = .ok (.aload_n 0, 1) := by decide +kernel
theorem dWe_keep_17 : decode cWe_keep 17 = .ok (.dup, 1) := by decide +kernel
theorem dWe_keep_18 : decode cWe_keep 18 = .ok (.getfield 77, 3) := by decide +kernel
theorem dWe_keep_21 : decode cWe_keep 21 = .ok (.lload_n 2, 1) := by decide +kernel
theorem dWe_keep_22 : decode cWe_keep 22 = .ok (.ladd, 1) := by decide +kernel
theorem dWe_keep_23 : decode cWe_keep 23 = .ok (.putfield 77, 3) := by decide +kernel
theorem dWe_keep_26 : decode cWe_keep 26 = .ok (.aload_n 0, 1) := by decide +kernel
theorem dWe_keep_27 : decode cWe_keep 27 = .ok (.dup, 1) := by decide +kernel
theorem dWe_keep_28 : decode cWe_keep 28 = .ok (.getfield 74, 3) := by decide +kernel
theorem dWe_keep_31 : decode cWe_keep 31 = .ok (.iconst 1, 1) := by decide +kernel
theorem dWe_keep_32 : decode cWe_keep 32 = .ok (.iadd, 1) := by decide +kernel
theorem dWe_keep_33 : decode cWe_keep 33 = .ok (.putfield 74, 3) := by decide +kernel
theorem dWe_keep_36 : decode cWe_keep 36 = .ok (.aload_n 0, 1) := by decide +kernel
theorem dWe_keep_37 : decode cWe_keep 37 = .ok (.getfield 71, 3) := by decide +kernel
theorem dWe_keep_40 : decode cWe_keep 40 = .ok (.bipush 24, 2) := by decide +kernel
theorem dWe_keep_42 : decode cWe_keep 42 = .ok (.if_icmp .lt 15, 3) := by decide +kernel
theorem dWe_keep_45 : decode cWe_keep 45 = .ok (.lload_n 2, 1) := by decide +kernel
theorem dWe_keep_46 : decode cWe_keep 46 = .ok (.aload_n 0, 1) := by decide +kernel
theorem dWe_keep_47 : decode cWe_keep 47 = .ok (.getfield 25, 3) := by decide +kernel
theorem dWe_keep_50 : decode cWe_keep 50 = .ok (.bipush 23, 2) := by decide +kernel
theorem dWe_keep_52 : decode cWe_keep 52 = .ok (.laload, 1) := by decide +kernel
theorem dWe_keep_53 : decode cWe_keep 53 = .ok (.lcmp, 1) := by decide +kernel
theorem dWe_keep_54 : decode cWe_keep 54 = .ok (.ifCond .le 9, 3) := by decide +kernel
theorem dWe_keep_57 : decode cWe_keep 57 = .ok (.aload_n 0, 1) := by decide +kernel
theorem dWe_keep_58 : decode cWe_keep 58 = .ok (.iload_n 1, 1) := by decide +kernel
theorem dWe_keep_59 : decode cWe_keep 59 = .ok (.lload_n 2, 1) := by decide +kernel
theorem dWe_keep_60 : decode cWe_keep 60 = .ok (.invokevirtual 100, 3) := by decide +kernel
theorem dWe_keep_63 : decode cWe_keep 63 = .ok (.return_, 1) := by decide +kernel
abbrev cWe_insertRank : ByteArray := prog_7_method_7_code
def yWe_insertRank : MethodName := ⟨RWe, "insertRank", "(IJ)V"⟩
theorem dWe_insertRank_0 : decode cWe_insertRank 0 = .ok (.aload_n 0, 1) := by decide +kernel
theorem dWe_insertRank_1 : decode cWe_insertRank 1 = .ok (.getfield 71, 3) := by decide +kernel
theorem dWe_insertRank_4 : decode cWe_insertRank 4 = .ok (.bipush 23, 2) := by decide +kernel
theorem dWe_insertRank_6 : decode cWe_insertRank 6 = .ok (.invokestatic 103, 3) := by decide +kernel
theorem dWe_insertRank_9 : decode cWe_insertRank 9 = .ok (.istore 4, 2) := by decide +kernel
theorem dWe_insertRank_11 : decode cWe_insertRank 11 = .ok (.iload 4, 2) := by decide +kernel
theorem dWe_insertRank_13 : decode cWe_insertRank 13 = .ok (.ifCond .le 55, 3) := by decide +kernel
theorem dWe_insertRank_16 : decode cWe_insertRank 16 = .ok (.aload_n 0, 1) := by decide +kernel
theorem dWe_insertRank_17 : decode cWe_insertRank 17 = .ok (.getfield 25, 3) := by decide +kernel
theorem dWe_insertRank_20 : decode cWe_insertRank 20 = .ok (.iload 4, 2) := by decide +kernel
theorem dWe_insertRank_22 : decode cWe_insertRank 22 = .ok (.iconst 1, 1) := by decide +kernel
theorem dWe_insertRank_23 : decode cWe_insertRank 23 = .ok (.isub, 1) := by decide +kernel
theorem dWe_insertRank_24 : decode cWe_insertRank 24 = .ok (.laload, 1) := by decide +kernel
theorem dWe_insertRank_25 : decode cWe_insertRank 25 = .ok (.lload_n 2, 1) := by decide +kernel
theorem dWe_insertRank_26 : decode cWe_insertRank 26 = .ok (.lcmp, 1) := by decide +kernel
theorem dWe_insertRank_27 : decode cWe_insertRank 27 = .ok (.ifCond .ge 41, 3) := by decide +kernel
theorem dWe_insertRank_30 : decode cWe_insertRank 30 = .ok (.aload_n 0, 1) := by decide +kernel
theorem dWe_insertRank_31 : decode cWe_insertRank 31 = .ok (.getfield 25, 3) := by decide +kernel
theorem dWe_insertRank_34 : decode cWe_insertRank 34 = .ok (.iload 4, 2) := by decide +kernel
theorem dWe_insertRank_36 : decode cWe_insertRank 36 = .ok (.aload_n 0, 1) := by decide +kernel
theorem dWe_insertRank_37 : decode cWe_insertRank 37 = .ok (.getfield 25, 3) := by decide +kernel
theorem dWe_insertRank_40 : decode cWe_insertRank 40 = .ok (.iload 4, 2) := by decide +kernel
theorem dWe_insertRank_42 : decode cWe_insertRank 42 = .ok (.iconst 1, 1) := by decide +kernel
theorem dWe_insertRank_43 : decode cWe_insertRank 43 = .ok (.isub, 1) := by decide +kernel
theorem dWe_insertRank_44 : decode cWe_insertRank 44 = .ok (.laload, 1) := by decide +kernel
theorem dWe_insertRank_45 : decode cWe_insertRank 45 = .ok (.lastore, 1) := by decide +kernel
theorem dWe_insertRank_46 : decode cWe_insertRank 46 = .ok (.aload_n 0, 1) := by decide +kernel
theorem dWe_insertRank_47 : decode cWe_insertRank 47 = .ok (.getfield 28, 3) := by decide +kernel
theorem dWe_insertRank_50 : decode cWe_insertRank 50 = .ok (.iload 4, 2) := by decide +kernel
theorem dWe_insertRank_52 : decode cWe_insertRank 52 = .ok (.aload_n 0, 1) := by decide +kernel
theorem dWe_insertRank_53 : decode cWe_insertRank 53 = .ok (.getfield 28, 3) := by decide +kernel
theorem dWe_insertRank_56 : decode cWe_insertRank 56 = .ok (.iload 4, 2) := by decide +kernel
theorem dWe_insertRank_58 : decode cWe_insertRank 58 = .ok (.iconst 1, 1) := by decide +kernel
theorem dWe_insertRank_59 : decode cWe_insertRank 59 = .ok (.isub, 1) := by decide +kernel
theorem dWe_insertRank_60 : decode cWe_insertRank 60 = .ok (.iaload, 1) := by decide +kernel
theorem dWe_insertRank_61 : decode cWe_insertRank 61 = .ok (.iastore, 1) := by decide +kernel
theorem dWe_insertRank_62 : decode cWe_insertRank 62 = .ok (.iinc 4 (-1), 3) := by decide +kernel
theorem dWe_insertRank_65 : decode cWe_insertRank 65 = .ok (.goto (-54), 3) := by decide +kernel
theorem dWe_insertRank_68 : decode cWe_insertRank 68 = .ok (.aload_n 0, 1) := by decide +kernel
theorem dWe_insertRank_69 : decode cWe_insertRank 69 = .ok (.getfield 25, 3) := by decide +kernel
theorem dWe_insertRank_72 : decode cWe_insertRank 72 = .ok (.iload 4, 2) := by decide +kernel
theorem dWe_insertRank_74 : decode cWe_insertRank 74 = .ok (.lload_n 2, 1) := by decide +kernel
theorem dWe_insertRank_75 : decode cWe_insertRank 75 = .ok (.lastore, 1) := by decide +kernel
theorem dWe_insertRank_76 : decode cWe_insertRank 76 = .ok (.aload_n 0, 1) := by decide +kernel
theorem dWe_insertRank_77 : decode cWe_insertRank 77 = .ok (.getfield 28, 3) := by decide +kernel
theorem dWe_insertRank_80 : decode cWe_insertRank 80 = .ok (.iload 4, 2) := by decide +kernel
theorem dWe_insertRank_82 : decode cWe_insertRank 82 = .ok (.iload_n 1, 1) := by decide +kernel
theorem dWe_insertRank_83 : decode cWe_insertRank 83 = .ok (.iastore, 1) := by decide +kernel
theorem dWe_insertRank_84 : decode cWe_insertRank 84 = .ok (.aload_n 0, 1) := by decide +kernel
theorem dWe_insertRank_85 : decode cWe_insertRank 85 = .ok (.aload_n 0, 1) := by decide +kernel
theorem dWe_insertRank_86 : decode cWe_insertRank 86 = .ok (.getfield 71, 3) := by decide +kernel
theorem dWe_insertRank_89 : decode cWe_insertRank 89 = .ok (.iconst 1, 1) := by decide +kernel
theorem dWe_insertRank_90 : decode cWe_insertRank 90 = .ok (.iadd, 1) := by decide +kernel
theorem dWe_insertRank_91 : decode cWe_insertRank 91 = .ok (.bipush 24, 2) := by decide +kernel
theorem dWe_insertRank_93 : decode cWe_insertRank 93 = .ok (.invokestatic 103, 3) := by decide +kernel
theorem dWe_insertRank_96 : decode cWe_insertRank 96 = .ok (.putfield 71, 3) := by decide +kernel
theorem dWe_insertRank_99 : decode cWe_insertRank 99 = .ok (.return_, 1) := by decide +kernel
abbrev cWe_stateAbove : ByteArray := prog_7_method_8_code
def yWe_stateAbove : MethodName := ⟨RWe, "stateAbove", "(J)I"⟩
theorem dWe_stateAbove_0 : decode cWe_stateAbove 0 = .ok (.lconst 0, 1) := by decide +kernel
theorem dWe_stateAbove_1 : decode cWe_stateAbove 1 = .ok (.lstore_n 3, 1) := by decide +kernel
theorem dWe_stateAbove_2 : decode cWe_stateAbove 2 = .ok (.iconst 0, 1) := by decide +kernel
theorem dWe_stateAbove_3 : decode cWe_stateAbove 3 = .ok (.istore 5, 2) := by decide +kernel
theorem dWe_stateAbove_5 : decode cWe_stateAbove 5 = .ok (.iload 5, 2) := by decide +kernel
theorem dWe_stateAbove_7 : decode cWe_stateAbove 7 = .ok (.aload_n 0, 1) := by decide +kernel
theorem dWe_stateAbove_8 : decode cWe_stateAbove 8 = .ok (.getfield 22, 3) := by decide +kernel
theorem dWe_stateAbove_11 : decode cWe_stateAbove 11 = .ok (.arraylength, 1) := by decide +kernel
theorem dWe_stateAbove_12 : decode cWe_stateAbove 12 = .ok (.if_icmp .ge 28, 3) := by decide +kernel
theorem dWe_stateAbove_15 : decode cWe_stateAbove 15 = .ok (.lload_n 3, 1) := by decide +kernel
theorem dWe_stateAbove_16 : decode cWe_stateAbove 16 = .ok (.aload_n 0, 1) := by decide +kernel
theorem dWe_stateAbove_17 : decode cWe_stateAbove 17 = .ok (.getfield 22, 3) := by decide +kernel
theorem dWe_stateAbove_20 : decode cWe_stateAbove 20 = .ok (.iload 5, 2) := by decide +kernel
theorem dWe_stateAbove_22 : decode cWe_stateAbove 22 = .ok (.laload, 1) := by decide +kernel
theorem dWe_stateAbove_23 : decode cWe_stateAbove 23 = .ok (.ladd, 1) := by decide +kernel
theorem dWe_stateAbove_24 : decode cWe_stateAbove 24 = .ok (.lstore_n 3, 1) := by decide +kernel
theorem dWe_stateAbove_25 : decode cWe_stateAbove 25 = .ok (.lload_n 3, 1) := by decide +kernel
theorem dWe_stateAbove_26 : decode cWe_stateAbove 26 = .ok (.lload_n 1, 1) := by decide +kernel
theorem dWe_stateAbove_27 : decode cWe_stateAbove 27 = .ok (.lcmp, 1) := by decide +kernel
theorem dWe_stateAbove_28 : decode cWe_stateAbove 28 = .ok (.ifCond .le 6, 3) := by decide +kernel
theorem dWe_stateAbove_31 : decode cWe_stateAbove 31 = .ok (.iload 5, 2) := by decide +kernel
theorem dWe_stateAbove_33 : decode cWe_stateAbove 33 = .ok (.ireturn, 1) := by decide +kernel
theorem dWe_stateAbove_34 : decode cWe_stateAbove 34 = .ok (.iinc 5 1, 3) := by decide +kernel
theorem dWe_stateAbove_37 : decode cWe_stateAbove 37 = .ok (.goto (-32), 3) := by decide +kernel
theorem dWe_stateAbove_40 : decode cWe_stateAbove 40 = .ok (.iconst 0, 1) := by decide +kernel
theorem dWe_stateAbove_41 : decode cWe_stateAbove 41 = .ok (.ireturn, 1) := by decide +kernel
abbrev cWe_gatherWhere : ByteArray := prog_7_method_9_code
def yWe_gatherWhere : MethodName := ⟨RWe, "gatherWhere", "(II)V"⟩
theorem dWe_gatherWhere_0 : decode cWe_gatherWhere 0 = .ok (.iload_n 2, 1) := by decide +kernel
theorem dWe_gatherWhere_1 : decode cWe_gatherWhere 1 = .ok (.istore_n 3, 1) := by decide +kernel
theorem dWe_gatherWhere_2 : decode cWe_gatherWhere 2 = .ok (.iconst 0, 1) := by decide +kernel
theorem dWe_gatherWhere_3 : decode cWe_gatherWhere 3 = .ok (.istore 4, 2) := by decide +kernel
theorem dWe_gatherWhere_5 : decode cWe_gatherWhere 5 = .ok (.iload 4, 2) := by decide +kernel
theorem dWe_gatherWhere_7 : decode cWe_gatherWhere 7 = .ok (.aload_n 0, 1) := by decide +kernel
theorem dWe_gatherWhere_8 : decode cWe_gatherWhere 8 = .ok (.getfield 31, 3) := by decide +kernel
theorem dWe_gatherWhere_11 : decode cWe_gatherWhere 11 = .ok (.getfield 49, 3) := by decide +kernel
theorem dWe_gatherWhere_14 : decode cWe_gatherWhere 14 = .ok (.if_icmp .ge 62, 3) := by decide +kernel
theorem dWe_gatherWhere_17 : decode cWe_gatherWhere 17 = .ok (.aload_n 0, 1) := by decide +kernel
theorem dWe_gatherWhere_18 : decode cWe_gatherWhere 18 = .ok (.getfield 15, 3) := by decide +kernel
theorem dWe_gatherWhere_21 : decode cWe_gatherWhere 21 = .ok (.iload 4, 2) := by decide +kernel
theorem dWe_gatherWhere_23 : decode cWe_gatherWhere 23 = .ok (.iconst (-1), 1) := by decide +kernel
theorem dWe_gatherWhere_24 : decode cWe_gatherWhere 24 = .ok (.iastore, 1) := by decide +kernel
theorem dWe_gatherWhere_25 : decode cWe_gatherWhere 25 = .ok (.iload_n 1, 1) := by decide +kernel
theorem dWe_gatherWhere_26 : decode cWe_gatherWhere 26 = .ok (.iconst 1, 1) := by decide +kernel
theorem dWe_gatherWhere_27 : decode cWe_gatherWhere 27 = .ok (.iload 4, 2) := by decide +kernel
theorem dWe_gatherWhere_29 : decode cWe_gatherWhere 29 = .ok (.ishl, 1) := by decide +kernel
theorem dWe_gatherWhere_30 : decode cWe_gatherWhere 30 = .ok (.iand, 1) := by decide +kernel
theorem dWe_gatherWhere_31 : decode cWe_gatherWhere 31 = .ok (.ifCond .eq 39, 3) := by decide +kernel
theorem dWe_gatherWhere_34 : decode cWe_gatherWhere 34 = .ok (.aload_n 0, 1) := by decide +kernel
theorem dWe_gatherWhere_35 : decode cWe_gatherWhere 35 = .ok (.getfield 15, 3) := by decide +kernel
theorem dWe_gatherWhere_38 : decode cWe_gatherWhere 38 = .ok (.iload 4, 2) := by decide +kernel
theorem dWe_gatherWhere_40 : decode cWe_gatherWhere 40 = .ok (.iload_n 3, 1) := by decide +kernel
theorem dWe_gatherWhere_41 : decode cWe_gatherWhere 41 = .ok (.aload_n 0, 1) := by decide +kernel
theorem dWe_gatherWhere_42 : decode cWe_gatherWhere 42 = .ok (.getfield 31, 3) := by decide +kernel
theorem dWe_gatherWhere_45 : decode cWe_gatherWhere 45 = .ok (.getfield 93, 3) := by decide +kernel
theorem dWe_gatherWhere_48 : decode cWe_gatherWhere 48 = .ok (.iload 4, 2) := by decide +kernel
theorem dWe_gatherWhere_50 : decode cWe_gatherWhere 50 = .ok (.iaload, 1) := by decide +kernel
theorem dWe_gatherWhere_51 : decode cWe_gatherWhere 51 = .ok (.invokestatic 108, 3) := by decide +kernel
theorem dWe_gatherWhere_54 : decode cWe_gatherWhere 54 = .ok (.iastore, 1) := by decide +kernel
theorem dWe_gatherWhere_55 : decode cWe_gatherWhere 55 = .ok (.iload_n 3, 1) := by decide +kernel
theorem dWe_gatherWhere_56 : decode cWe_gatherWhere 56 = .ok (.aload_n 0, 1) := by decide +kernel
theorem dWe_gatherWhere_57 : decode cWe_gatherWhere 57 = .ok (.getfield 31, 3) := by decide +kernel
theorem dWe_gatherWhere_60 : decode cWe_gatherWhere 60 = .ok (.getfield 93, 3) := by decide +kernel
theorem dWe_gatherWhere_63 : decode cWe_gatherWhere 63 = .ok (.iload 4, 2) := by decide +kernel
theorem dWe_gatherWhere_65 : decode cWe_gatherWhere 65 = .ok (.iaload, 1) := by decide +kernel
theorem dWe_gatherWhere_66 : decode cWe_gatherWhere 66 = .ok (.invokestatic 111, 3) := by decide +kernel
theorem dWe_gatherWhere_69 : decode cWe_gatherWhere 69 = .ok (.istore_n 3, 1) := by decide +kernel
theorem dWe_gatherWhere_70 : decode cWe_gatherWhere 70 = .ok (.iinc 4 1, 3) := by decide +kernel
theorem dWe_gatherWhere_73 : decode cWe_gatherWhere 73 = .ok (.goto (-68), 3) := by decide +kernel
theorem dWe_gatherWhere_76 : decode cWe_gatherWhere 76 = .ok (.aload_n 0, 1) := by decide +kernel
theorem dWe_gatherWhere_77 : decode cWe_gatherWhere 77 = .ok (.lconst 0, 1) := by decide +kernel
theorem dWe_gatherWhere_78 : decode cWe_gatherWhere 78 = .ok (.putfield 114, 3) := by decide +kernel
theorem dWe_gatherWhere_81 : decode cWe_gatherWhere 81 = .ok (.aload_n 0, 1) := by decide +kernel
theorem dWe_gatherWhere_82 : decode cWe_gatherWhere 82 = .ok (.iconst 0, 1) := by decide +kernel
theorem dWe_gatherWhere_83 : decode cWe_gatherWhere 83 = .ok (.putfield 117, 3) := by decide +kernel
theorem dWe_gatherWhere_86 : decode cWe_gatherWhere 86 = .ok (.aload_n 0, 1) := by decide +kernel
theorem dWe_gatherWhere_87 : decode cWe_gatherWhere 87 = .ok (.iconst 0, 1) := by decide +kernel
theorem dWe_gatherWhere_88 : decode cWe_gatherWhere 88 = .ok (.iconst 0, 1) := by decide +kernel
theorem dWe_gatherWhere_89 : decode cWe_gatherWhere 89 = .ok (.invokevirtual 120, 3) := by decide +kernel
theorem dWe_gatherWhere_92 : decode cWe_gatherWhere 92 = .ok (.return_, 1) := by decide +kernel
abbrev cWe_gather : ByteArray := prog_7_method_10_code
def yWe_gather : MethodName := ⟨RWe, "gather", "(II)V"⟩
theorem dWe_gather_0 : decode cWe_gather 0 = .ok (.iload_n 1, 1) := by decide +kernel
theorem dWe_gather_1 : decode cWe_gather 1 = .ok (.aload_n 0, 1) := by decide +kernel
theorem dWe_gather_2 : decode cWe_gather 2 = .ok (.getfield 31, 3) := by decide +kernel
theorem dWe_gather_5 : decode cWe_gather 5 = .ok (.getfield 49, 3) := by decide +kernel
theorem dWe_gather_8 : decode cWe_gather 8 = .ok (.if_icmp .lt 49, 3) := by decide +kernel
theorem dWe_gather_11 : decode cWe_gather 11 = .ok (.iload_n 2, 1) := by decide +kernel
theorem dWe_gather_12 : decode cWe_gather 12 = .ok (.aload_n 0, 1) := by decide +kernel
theorem dWe_gather_13 : decode cWe_gather 13 = .ok (.getfield 22, 3) := by decide +kernel
theorem dWe_gather_16 : decode cWe_gather 16 = .ok (.arraylength, 1) := by decide +kernel
theorem dWe_gather_17 : decode cWe_gather 17 = .ok (.if_icmp .ge 39, 3) := by decide +kernel
theorem dWe_gather_20 : decode cWe_gather 20 = .ok (.aload_n 0, 1) := by decide +kernel
theorem dWe_gather_21 : decode cWe_gather 21 = .ok (.getfield 22, 3) := by decide +kernel
theorem dWe_gather_24 : decode cWe_gather 24 = .ok (.iload_n 2, 1) := by decide +kernel
theorem dWe_gather_25 : decode cWe_gather 25 = .ok (.laload, 1) := by decide +kernel
theorem dWe_gather_26 : decode cWe_gather 26 = .ok (.lconst 0, 1) := by decide +kernel
theorem dWe_gather_27 : decode cWe_gather 27 = .ok (.lcmp, 1) := by decide +kernel
theorem dWe_gather_28 : decode cWe_gather 28 = .ok (.ifCond .le 28, 3) := by decide +kernel
theorem dWe_gather_31 : decode cWe_gather 31 = .ok (.aload_n 0, 1) := by decide +kernel
theorem dWe_gather_32 : decode cWe_gather 32 = .ok (.dup, 1) := by decide +kernel
theorem dWe_gather_33 : decode cWe_gather 33 = .ok (.getfield 114, 3) := by decide +kernel
theorem dWe_gather_36 : decode cWe_gather 36 = .ok (.aload_n 0, 1) := by decide +kernel
theorem dWe_gather_37 : decode cWe_gather 37 = .ok (.getfield 22, 3) := by decide +kernel
theorem dWe_gather_40 : decode cWe_gather 40 = .ok (.iload_n 2, 1) := by decide +kernel
theorem dWe_gather_41 : decode cWe_gather 41 = .ok (.laload, 1) := by decide +kernel
theorem dWe_gather_42 : decode cWe_gather 42 = .ok (.ladd, 1) := by decide +kernel
theorem dWe_gather_43 : decode cWe_gather 43 = .ok (.putfield 114, 3) := by decide +kernel
theorem dWe_gather_46 : decode cWe_gather 46 = .ok (.aload_n 0, 1) := by decide +kernel
theorem dWe_gather_47 : decode cWe_gather 47 = .ok (.dup, 1) := by decide +kernel
theorem dWe_gather_48 : decode cWe_gather 48 = .ok (.getfield 117, 3) := by decide +kernel
theorem dWe_gather_51 : decode cWe_gather 51 = .ok (.iconst 1, 1) := by decide +kernel
theorem dWe_gather_52 : decode cWe_gather 52 = .ok (.iadd, 1) := by decide +kernel
theorem dWe_gather_53 : decode cWe_gather 53 = .ok (.putfield 117, 3) := by decide +kernel
theorem dWe_gather_56 : decode cWe_gather 56 = .ok (.return_, 1) := by decide +kernel
theorem dWe_gather_57 : decode cWe_gather 57 = .ok (.aload_n 0, 1) := by decide +kernel
theorem dWe_gather_58 : decode cWe_gather 58 = .ok (.getfield 31, 3) := by decide +kernel
theorem dWe_gather_61 : decode cWe_gather 61 = .ok (.getfield 93, 3) := by decide +kernel
theorem dWe_gather_64 : decode cWe_gather 64 = .ok (.iload_n 1, 1) := by decide +kernel
theorem dWe_gather_65 : decode cWe_gather 65 = .ok (.iaload, 1) := by decide +kernel
theorem dWe_gather_66 : decode cWe_gather 66 = .ok (.istore_n 3, 1) := by decide +kernel
theorem dWe_gather_67 : decode cWe_gather 67 = .ok (.aload_n 0, 1) := by decide +kernel
theorem dWe_gather_68 : decode cWe_gather 68 = .ok (.getfield 15, 3) := by decide +kernel
theorem dWe_gather_71 : decode cWe_gather 71 = .ok (.iload_n 1, 1) := by decide +kernel
theorem dWe_gather_72 : decode cWe_gather 72 = .ok (.iaload, 1) := by decide +kernel
theorem dWe_gather_73 : decode cWe_gather 73 = .ok (.iconst (-1), 1) := by decide +kernel
theorem dWe_gather_74 : decode cWe_gather 74 = .ok (.if_icmp .eq 21, 3) := by decide +kernel
theorem dWe_gather_77 : decode cWe_gather 77 = .ok (.aload_n 0, 1) := by decide +kernel
theorem dWe_gather_78 : decode cWe_gather 78 = .ok (.iload_n 1, 1) := by decide +kernel
theorem dWe_gather_79 : decode cWe_gather 79 = .ok (.iconst 1, 1) := by decide +kernel
theorem dWe_gather_80 : decode cWe_gather 80 = .ok (.iadd, 1) := by decide +kernel
theorem dWe_gather_81 : decode cWe_gather 81 = .ok (.iload_n 2, 1) := by decide +kernel
theorem dWe_gather_82 : decode cWe_gather 82 = .ok (.iload_n 3, 1) := by decide +kernel
theorem dWe_gather_83 : decode cWe_gather 83 = .ok (.imul, 1) := by decide +kernel
theorem dWe_gather_84 : decode cWe_gather 84 = .ok (.aload_n 0, 1) := by decide +kernel
theorem dWe_gather_85 : decode cWe_gather 85 = .ok (.getfield 15, 3) := by decide +kernel
theorem dWe_gather_88 : decode cWe_gather 88 = .ok (.iload_n 1, 1) := by decide +kernel
theorem dWe_gather_89 : decode cWe_gather 89 = .ok (.iaload, 1) := by decide +kernel
theorem dWe_gather_90 : decode cWe_gather 90 = .ok (.iadd, 1) := by decide +kernel
theorem dWe_gather_91 : decode cWe_gather 91 = .ok (.invokevirtual 120, 3) := by decide +kernel
theorem dWe_gather_94 : decode cWe_gather 94 = .ok (.return_, 1) := by decide +kernel
theorem dWe_gather_95 : decode cWe_gather 95 = .ok (.iconst 0, 1) := by decide +kernel
theorem dWe_gather_96 : decode cWe_gather 96 = .ok (.istore 4, 2) := by decide +kernel
theorem dWe_gather_98 : decode cWe_gather 98 = .ok (.iload 4, 2) := by decide +kernel
theorem dWe_gather_100 : decode cWe_gather 100 = .ok (.iload_n 3, 1) := by decide +kernel
theorem dWe_gather_101 : decode cWe_gather 101 = .ok (.if_icmp .ge 22, 3) := by decide +kernel
theorem dWe_gather_104 : decode cWe_gather 104 = .ok (.aload_n 0, 1) := by decide +kernel
theorem dWe_gather_105 : decode cWe_gather 105 = .ok (.iload_n 1, 1) := by decide +kernel
theorem dWe_gather_106 : decode cWe_gather 106 = .ok (.iconst 1, 1) := by decide +kernel
theorem dWe_gather_107 : decode cWe_gather 107 = .ok (.iadd, 1) := by decide +kernel
theorem dWe_gather_108 : decode cWe_gather 108 = .ok (.iload_n 2, 1) := by decide +kernel
theorem dWe_gather_109 : decode cWe_gather 109 = .ok (.iload_n 3, 1) := by decide +kernel
theorem dWe_gather_110 : decode cWe_gather 110 = .ok (.imul, 1) := by decide +kernel
theorem dWe_gather_111 : decode cWe_gather 111 = .ok (.iload 4, 2) := by decide +kernel
theorem dWe_gather_113 : decode cWe_gather 113 = .ok (.iadd, 1) := by decide +kernel
theorem dWe_gather_114 : decode cWe_gather 114 = .ok (.invokevirtual 120, 3) := by decide +kernel
theorem dWe_gather_117 : decode cWe_gather 117 = .ok (.iinc 4 1, 3) := by decide +kernel
theorem dWe_gather_120 : decode cWe_gather 120 = .ok (.goto (-22), 3) := by decide +kernel
theorem dWe_gather_123 : decode cWe_gather 123 = .ok (.return_, 1) := by decide +kernel
end
section
abbrev cTo_init : ByteArray := prog_1_method_1_code
def yTo_init : MethodName := ⟨RTo, "<init>", "()V"⟩
theorem dTo_init_0 : decode cTo_init 0 = .ok (.aload_n 0, 1) := by decide +kernel
theorem dTo_init_1 : decode cTo_init 1 = .ok (.invokespecial 1, 3) := by decide +kernel
theorem dTo_init_4 : decode cTo_init 4 = .ok (.aload_n 0, 1) := by decide +kernel
theorem dTo_init_5 : decode cTo_init 5 = .ok (.new 7, 3) := by decide +kernel
theorem dTo_init_8 : decode cTo_init 8 = .ok (.dup, 1) := by decide +kernel
theorem dTo_init_9 : decode cTo_init 9 = .ok (.invokespecial 9, 3) := by decide +kernel
theorem dTo_init_12 : decode cTo_init 12 = .ok (.putfield 10, 3) := by decide +kernel
theorem dTo_init_15 : decode cTo_init 15 = .ok (.aload_n 0, 1) := by decide +kernel
theorem dTo_init_16 : decode cTo_init 16 = .ok (.new 16, 3) := by decide +kernel
theorem dTo_init_19 : decode cTo_init 19 = .ok (.dup, 1) := by decide +kernel
theorem dTo_init_20 : decode cTo_init 20 = .ok (.aload_n 0, 1) := by decide +kernel
theorem dTo_init_21 : decode cTo_init 21 = .ok (.getfield 10, 3) := by decide +kernel
theorem dTo_init_24 : decode cTo_init 24 = .ok (.invokespecial 18, 3) := by decide +kernel
theorem dTo_init_27 : decode cTo_init 27 = .ok (.putfield 21, 3) := by decide +kernel
theorem dTo_init_30 : decode cTo_init 30 = .ok (.aload_n 0, 1) := by decide +kernel
theorem dTo_init_31 : decode cTo_init 31 = .ok (.new 25, 3) := by decide +kernel
theorem dTo_init_34 : decode cTo_init 34 = .ok (.dup, 1) := by decide +kernel
theorem dTo_init_35 : decode cTo_init 35 = .ok (.aload_n 0, 1) := by decide +kernel
theorem dTo_init_36 : decode cTo_init 36 = .ok (.getfield 10, 3) := by decide +kernel
theorem dTo_init_39 : decode cTo_init 39 = .ok (.invokespecial 27, 3) := by decide +kernel
theorem dTo_init_42 : decode cTo_init 42 = .ok (.putfield 28, 3) := by decide +kernel
theorem dTo_init_45 : decode cTo_init 45 = .ok (.aload_n 0, 1) := by decide +kernel
theorem dTo_init_46 : decode cTo_init 46 = .ok (.new 32, 3) := by decide +kernel
theorem dTo_init_49 : decode cTo_init 49 = .ok (.dup, 1) := by decide +kernel
theorem dTo_init_50 : decode cTo_init 50 = .ok (.aload_n 0, 1) := by decide +kernel
theorem dTo_init_51 : decode cTo_init 51 = .ok (.getfield 10, 3) := by decide +kernel
theorem dTo_init_54 : decode cTo_init 54 = .ok (.aload_n 0, 1) := by decide +kernel
theorem dTo_init_55 : decode cTo_init 55 = .ok (.getfield 21, 3) := by decide +kernel
theorem dTo_init_58 : decode cTo_init 58 = .ok (.invokespecial 34, 3) := by decide +kernel
theorem dTo_init_61 : decode cTo_init 61 = .ok (.putfield 37, 3) := by decide +kernel
theorem dTo_init_64 : decode cTo_init 64 = .ok (.aload_n 0, 1) := by decide +kernel
theorem dTo_init_65 : decode cTo_init 65 = .ok (.ldc 41, 2) := by decide +kernel
theorem dTo_init_67 : decode cTo_init 67 = .ok (.putfield 42, 3) := by decide +kernel
theorem dTo_init_70 : decode cTo_init 70 = .ok (.return_, 1) := by decide +kernel
abbrev cTo_name : ByteArray := prog_1_method_2_code
def yTo_name : MethodName := ⟨RTo, "name", "(I)I"⟩
theorem dTo_name_0 : decode cTo_name 0 = .ok (.iload_n 1, 1) := by decide +kernel
theorem dTo_name_1 : decode cTo_name 1 = .ok (.iconst 2, 1) := by decide +kernel
theorem dTo_name_2 : decode cTo_name 2 = .ok (.if_icmp .lt 8, 3) := by decide +kernel
theorem dTo_name_5 : decode cTo_name 5 = .ok (.iload_n 1, 1) := by decide +kernel
theorem dTo_name_6 : decode cTo_name 6 = .ok (.iconst 4, 1) := by decide +kernel
theorem dTo_name_7 : decode cTo_name 7 = .ok (.if_icmp .le 6, 3) := by decide +kernel
theorem dTo_name_10 : decode cTo_name 10 = .ok (.bipush (-2), 2) := by decide +kernel
theorem dTo_name_12 : decode cTo_name 12 = .ok (.ireturn, 1) := by decide +kernel
theorem dTo_name_13 : decode cTo_name 13 = .ok (.aload_n 0, 1) := by decide +kernel
theorem dTo_name_14 : decode cTo_name 14 = .ok (.getfield 10, 3) := by decide +kernel
theorem dTo_name_17 : decode cTo_name 17 = .ok (.getfield 46, 3) := by decide +kernel
theorem dTo_name_20 : decode cTo_name 20 = .ok (.bipush 12, 2) := by decide +kernel
theorem dTo_name_22 : decode cTo_name 22 = .ok (.if_icmp .ge 17, 3) := by decide +kernel
theorem dTo_name_25 : decode cTo_name 25 = .ok (.aload_n 0, 1) := by decide +kernel
theorem dTo_name_26 : decode cTo_name 26 = .ok (.getfield 10, 3) := by decide +kernel
theorem dTo_name_29 : decode cTo_name 29 = .ok (.getfield 49, 3) := by decide +kernel
theorem dTo_name_32 : decode cTo_name 32 = .ok (.iload_n 1, 1) := by decide +kernel
theorem dTo_name_33 : decode cTo_name 33 = .ok (.imul, 1) := by decide +kernel
theorem dTo_name_34 : decode cTo_name 34 = .ok (.ldc 41, 2) := by decide +kernel
theorem dTo_name_36 : decode cTo_name 36 = .ok (.if_icmp .le 6, 3) := by decide +kernel
theorem dTo_name_39 : decode cTo_name 39 = .ok (.bipush (-4), 2) := by decide +kernel
theorem dTo_name_41 : decode cTo_name 41 = .ok (.ireturn, 1) := by decide +kernel
theorem dTo_name_42 : decode cTo_name 42 = .ok (.aload_n 0, 1) := by decide +kernel
theorem dTo_name_43 : decode cTo_name 43 = .ok (.getfield 28, 3) := by decide +kernel
theorem dTo_name_46 : decode cTo_name 46 = .ok (.invokevirtual 52, 3) := by decide +kernel
theorem dTo_name_49 : decode cTo_name 49 = .ok (.aload_n 0, 1) := by decide +kernel
theorem dTo_name_50 : decode cTo_name 50 = .ok (.getfield 37, 3) := by decide +kernel
theorem dTo_name_53 : decode cTo_name 53 = .ok (.invokevirtual 55, 3) := by decide +kernel
theorem dTo_name_56 : decode cTo_name 56 = .ok (.aload_n 0, 1) := by decide +kernel
theorem dTo_name_57 : decode cTo_name 57 = .ok (.getfield 10, 3) := by decide +kernel
theorem dTo_name_60 : decode cTo_name 60 = .ok (.iload_n 1, 1) := by decide +kernel
theorem dTo_name_61 : decode cTo_name 61 = .ok (.invokevirtual 56, 3) := by decide +kernel
theorem dTo_name_64 : decode cTo_name 64 = .ok (.ireturn, 1) := by decide +kernel
abbrev cTo_factor : ByteArray := prog_1_method_3_code
def yTo_factor : MethodName := ⟨RTo, "factor", "(I)I"⟩
theorem dTo_factor_0 : decode cTo_factor 0 = .ok (.aload_n 0, 1) := by decide +kernel
theorem dTo_factor_1 : decode cTo_factor 1 = .ok (.getfield 10, 3) := by decide +kernel
theorem dTo_factor_4 : decode cTo_factor 4 = .ok (.iload_n 1, 1) := by decide +kernel
theorem dTo_factor_5 : decode cTo_factor 5 = .ok (.invokevirtual 60, 3) := by decide +kernel
theorem dTo_factor_8 : decode cTo_factor 8 = .ok (.ifCond .ne 5, 3) := by decide +kernel
theorem dTo_factor_11 : decode cTo_factor 11 = .ok (.iconst (-1), 1) := by decide +kernel
theorem dTo_factor_12 : decode cTo_factor 12 = .ok (.ireturn, 1) := by decide +kernel
theorem dTo_factor_13 : decode cTo_factor 13 = .ok (.iload_n 1, 1) := by decide +kernel
theorem dTo_factor_14 : decode cTo_factor 14 = .ok (.invokestatic 64, 3) := by decide +kernel
theorem dTo_factor_17 : decode cTo_factor 17 = .ok (.iconst 4, 1) := by decide +kernel
theorem dTo_factor_18 : decode cTo_factor 18 = .ok (.if_icmp .le 6, 3) := by decide +kernel
theorem dTo_factor_21 : decode cTo_factor 21 = .ok (.bipush (-2), 2) := by decide +kernel
theorem dTo_factor_23 : decode cTo_factor 23 = .ok (.ireturn, 1) := by decide +kernel
theorem dTo_factor_24 : decode cTo_factor 24 = .ok (.aload_n 0, 1) := by decide +kernel
theorem dTo_factor_25 : decode cTo_factor 25 = .ok (.getfield 21, 3) := by decide +kernel
theorem dTo_factor_28 : decode cTo_factor 28 = .ok (.getfield 69, 3) := by decide +kernel
theorem dTo_factor_31 : decode cTo_factor 31 = .ok (.bipush 16, 2) := by decide +kernel
theorem dTo_factor_33 : decode cTo_factor 33 = .ok (.if_icmp .lt 6, 3) := by decide +kernel
theorem dTo_factor_36 : decode cTo_factor 36 = .ok (.bipush (-4), 2) := by decide +kernel
theorem dTo_factor_38 : decode cTo_factor 38 = .ok (.ireturn, 1) := by decide +kernel
theorem dTo_factor_39 : decode cTo_factor 39 = .ok (.aload_n 0, 1) := by decide +kernel
theorem dTo_factor_40 : decode cTo_factor 40 = .ok (.getfield 28, 3) := by decide +kernel
theorem dTo_factor_43 : decode cTo_factor 43 = .ok (.invokevirtual 52, 3) := by decide +kernel
theorem dTo_factor_46 : decode cTo_factor 46 = .ok (.aload_n 0, 1) := by decide +kernel
theorem dTo_factor_47 : decode cTo_factor 47 = .ok (.getfield 37, 3) := by decide +kernel
theorem dTo_factor_50 : decode cTo_factor 50 = .ok (.invokevirtual 55, 3) := by decide +kernel
theorem dTo_factor_53 : decode cTo_factor 53 = .ok (.aload_n 0, 1) := by decide +kernel
theorem dTo_factor_54 : decode cTo_factor 54 = .ok (.getfield 10, 3) := by decide +kernel
theorem dTo_factor_57 : decode cTo_factor 57 = .ok (.iload_n 1, 1) := by decide +kernel
theorem dTo_factor_58 : decode cTo_factor 58 = .ok (.invokevirtual 72, 3) := by decide +kernel
theorem dTo_factor_61 : decode cTo_factor 61 = .ok (.aload_n 0, 1) := by decide +kernel
theorem dTo_factor_62 : decode cTo_factor 62 = .ok (.getfield 21, 3) := by decide +kernel
theorem dTo_factor_65 : decode cTo_factor 65 = .ok (.iload_n 1, 1) := by decide +kernel
theorem dTo_factor_66 : decode cTo_factor 66 = .ok (.invokevirtual 76, 3) := by decide +kernel
theorem dTo_factor_69 : decode cTo_factor 69 = .ok (.ireturn, 1) := by decide +kernel
abbrev cTo_put : ByteArray := prog_1_method_4_code
def yTo_put : MethodName := ⟨RTo, "put", "(III)I"⟩
theorem dTo_put_0 : decode cTo_put 0 = .ok (.aload_n 0, 1) := by decide +kernel
theorem dTo_put_1 : decode cTo_put 1 = .ok (.getfield 21, 3) := by decide +kernel
theorem dTo_put_4 : decode cTo_put 4 = .ok (.iload_n 1, 1) := by decide +kernel
theorem dTo_put_5 : decode cTo_put 5 = .ok (.invokevirtual 79, 3) := by decide +kernel
theorem dTo_put_8 : decode cTo_put 8 = .ok (.astore 4, 2) := by decide +kernel
theorem dTo_put_10 : decode cTo_put 10 = .ok (.aload 4, 2) := by decide +kernel
theorem dTo_put_12 : decode cTo_put 12 = .ok (.ifnonnull 5, 3) := by decide +kernel
theorem dTo_put_15 : decode cTo_put 15 = .ok (.iconst (-1), 1) := by decide +kernel
theorem dTo_put_16 : decode cTo_put 16 = .ok (.ireturn, 1) := by decide +kernel
theorem dTo_put_17 : decode cTo_put 17 = .ok (.iload_n 2, 1) := by decide +kernel
theorem dTo_put_18 : decode cTo_put 18 = .ok (.ifCond .lt 23, 3) := by decide +kernel
theorem dTo_put_21 : decode cTo_put 21 = .ok (.iload_n 2, 1) := by decide +kernel
theorem dTo_put_22 : decode cTo_put 22 = .ok (.aload 4, 2) := by decide +kernel
theorem dTo_put_24 : decode cTo_put 24 = .ok (.getfield 83, 3) := by decide +kernel
theorem dTo_put_27 : decode cTo_put 27 = .ok (.arraylength, 1) := by decide +kernel
theorem dTo_put_28 : decode cTo_put 28 = .ok (.if_icmp .ge 13, 3) := by decide +kernel
theorem dTo_put_31 : decode cTo_put 31 = .ok (.iload_n 3, 1) := by decide +kernel
theorem dTo_put_32 : decode cTo_put 32 = .ok (.ifCond .lt 9, 3) := by decide +kernel
theorem dTo_put_35 : decode cTo_put 35 = .ok (.iload_n 3, 1) := by decide +kernel
theorem dTo_put_36 : decode cTo_put 36 = .ok (.bipush 7, 2) := by decide +kernel
theorem dTo_put_38 : decode cTo_put 38 = .ok (.if_icmp .le 6, 3) := by decide +kernel
theorem dTo_put_41 : decode cTo_put 41 = .ok (.bipush (-2), 2) := by decide +kernel
theorem dTo_put_43 : decode cTo_put 43 = .ok (.ireturn, 1) := by decide +kernel
theorem dTo_put_44 : decode cTo_put 44 = .ok (.aload_n 0, 1) := by decide +kernel
theorem dTo_put_45 : decode cTo_put 45 = .ok (.getfield 37, 3) := by decide +kernel
theorem dTo_put_48 : decode cTo_put 48 = .ok (.invokevirtual 55, 3) := by decide +kernel
theorem dTo_put_51 : decode cTo_put 51 = .ok (.aload 4, 2) := by decide +kernel
theorem dTo_put_53 : decode cTo_put 53 = .ok (.iload_n 2, 1) := by decide +kernel
theorem dTo_put_54 : decode cTo_put 54 = .ok (.iload_n 3, 1) := by decide +kernel
theorem dTo_put_55 : decode cTo_put 55 = .ok (.invokevirtual 89, 3) := by decide +kernel
theorem dTo_put_58 : decode cTo_put 58 = .ok (.ireturn, 1) := by decide +kernel
abbrev cTo_copies : ByteArray := prog_1_method_5_code
def yTo_copies : MethodName := ⟨RTo, "copies", "(II)I"⟩
theorem dTo_copies_0 : decode cTo_copies 0 = .ok (.aload_n 0, 1) := by decide +kernel
theorem dTo_copies_1 : decode cTo_copies 1 = .ok (.getfield 21, 3) := by decide +kernel
theorem dTo_copies_4 : decode cTo_copies 4 = .ok (.iload_n 1, 1) := by decide +kernel
theorem dTo_copies_5 : decode cTo_copies 5 = .ok (.invokevirtual 79, 3) := by decide +kernel
theorem dTo_copies_8 : decode cTo_copies 8 = .ok (.astore_n 3, 1) := by decide +kernel
theorem dTo_copies_9 : decode cTo_copies 9 = .ok (.aload_n 3, 1) := by decide +kernel
theorem dTo_copies_10 : decode cTo_copies 10 = .ok (.ifnonnull 5, 3) := by decide +kernel
theorem dTo_copies_13 : decode cTo_copies 13 = .ok (.iconst (-1), 1) := by decide +kernel
theorem dTo_copies_14 : decode cTo_copies 14 = .ok (.ireturn, 1) := by decide +kernel
theorem dTo_copies_15 : decode cTo_copies 15 = .ok (.iload_n 2, 1) := by decide +kernel
theorem dTo_copies_16 : decode cTo_copies 16 = .ok (.iconst 1, 1) := by decide +kernel
theorem dTo_copies_17 : decode cTo_copies 17 = .ok (.if_icmp .lt 8, 3) := by decide +kernel
theorem dTo_copies_20 : decode cTo_copies 20 = .ok (.iload_n 2, 1) := by decide +kernel
theorem dTo_copies_21 : decode cTo_copies 21 = .ok (.iconst 3, 1) := by decide +kernel
theorem dTo_copies_22 : decode cTo_copies 22 = .ok (.if_icmp .le 6, 3) := by decide +kernel
theorem dTo_copies_25 : decode cTo_copies 25 = .ok (.bipush (-2), 2) := by decide +kernel
theorem dTo_copies_27 : decode cTo_copies 27 = .ok (.ireturn, 1) := by decide +kernel
theorem dTo_copies_28 : decode cTo_copies 28 = .ok (.aload_n 0, 1) := by decide +kernel
theorem dTo_copies_29 : decode cTo_copies 29 = .ok (.getfield 21, 3) := by decide +kernel
theorem dTo_copies_32 : decode cTo_copies 32 = .ok (.getfield 69, 3) := by decide +kernel
theorem dTo_copies_35 : decode cTo_copies 35 = .ok (.aload_n 3, 1) := by decide +kernel
theorem dTo_copies_36 : decode cTo_copies 36 = .ok (.getfield 93, 3) := by decide +kernel
theorem dTo_copies_39 : decode cTo_copies 39 = .ok (.isub, 1) := by decide +kernel
theorem dTo_copies_40 : decode cTo_copies 40 = .ok (.iload_n 2, 1) := by decide +kernel
theorem dTo_copies_41 : decode cTo_copies 41 = .ok (.iadd, 1) := by decide +kernel
theorem dTo_copies_42 : decode cTo_copies 42 = .ok (.bipush 16, 2) := by decide +kernel
theorem dTo_copies_44 : decode cTo_copies 44 = .ok (.if_icmp .le 6, 3) := by decide +kernel
theorem dTo_copies_47 : decode cTo_copies 47 = .ok (.bipush (-4), 2) := by decide +kernel
theorem dTo_copies_49 : decode cTo_copies 49 = .ok (.ireturn, 1) := by decide +kernel
theorem dTo_copies_50 : decode cTo_copies 50 = .ok (.aload_n 0, 1) := by decide +kernel
theorem dTo_copies_51 : decode cTo_copies 51 = .ok (.getfield 37, 3) := by decide +kernel
theorem dTo_copies_54 : decode cTo_copies 54 = .ok (.invokevirtual 55, 3) := by decide +kernel
theorem dTo_copies_57 : decode cTo_copies 57 = .ok (.aload_n 0, 1) := by decide +kernel
theorem dTo_copies_58 : decode cTo_copies 58 = .ok (.getfield 21, 3) := by decide +kernel
theorem dTo_copies_61 : decode cTo_copies 61 = .ok (.aload_n 3, 1) := by decide +kernel
theorem dTo_copies_62 : decode cTo_copies 62 = .ok (.iload_n 2, 1) := by decide +kernel
theorem dTo_copies_63 : decode cTo_copies 63 = .ok (.invokevirtual 96, 3) := by decide +kernel
theorem dTo_copies_66 : decode cTo_copies 66 = .ok (.ireturn, 1) := by decide +kernel
abbrev cTo_evidence : ByteArray := prog_1_method_6_code
def yTo_evidence : MethodName := ⟨RTo, "evidence", "(II)I"⟩
theorem dTo_evidence_0 : decode cTo_evidence 0 = .ok (.aload_n 0, 1) := by decide +kernel
theorem dTo_evidence_1 : decode cTo_evidence 1 = .ok (.getfield 10, 3) := by decide +kernel
theorem dTo_evidence_4 : decode cTo_evidence 4 = .ok (.iload_n 1, 1) := by decide +kernel
theorem dTo_evidence_5 : decode cTo_evidence 5 = .ok (.invokevirtual 100, 3) := by decide +kernel
theorem dTo_evidence_8 : decode cTo_evidence 8 = .ok (.ifCond .ne 5, 3) := by decide +kernel
theorem dTo_evidence_11 : decode cTo_evidence 11 = .ok (.iconst (-1), 1) := by decide +kernel
theorem dTo_evidence_12 : decode cTo_evidence 12 = .ok (.ireturn, 1) := by decide +kernel
theorem dTo_evidence_13 : decode cTo_evidence 13 = .ok (.iload_n 2, 1) := by decide +kernel
theorem dTo_evidence_14 : decode cTo_evidence 14 = .ok (.iconst (-1), 1) := by decide +kernel
theorem dTo_evidence_15 : decode cTo_evidence 15 = .ok (.if_icmp .eq 18, 3) := by decide +kernel
theorem dTo_evidence_18 : decode cTo_evidence 18 = .ok (.aload_n 0, 1) := by decide +kernel
theorem dTo_evidence_19 : decode cTo_evidence 19 = .ok (.getfield 10, 3) := by decide +kernel
theorem dTo_evidence_22 : decode cTo_evidence 22 = .ok (.iload_n 1, 1) := by decide +kernel
theorem dTo_evidence_23 : decode cTo_evidence 23 = .ok (.iload_n 2, 1) := by decide +kernel
theorem dTo_evidence_24 : decode cTo_evidence 24 = .ok (.invokevirtual 103, 3) := by decide +kernel
theorem dTo_evidence_27 : decode cTo_evidence 27 = .ok (.ifCond .ne 6, 3) := by decide +kernel
theorem dTo_evidence_30 : decode cTo_evidence 30 = .ok (.bipush (-2), 2) := by decide +kernel
theorem dTo_evidence_32 : decode cTo_evidence 32 = .ok (.ireturn, 1) := by decide +kernel
theorem dTo_evidence_33 : decode cTo_evidence 33 = .ok (.aload_n 0, 1) := by decide +kernel
theorem dTo_evidence_34 : decode cTo_evidence 34 = .ok (.getfield 37, 3) := by decide +kernel
theorem dTo_evidence_37 : decode cTo_evidence 37 = .ok (.invokevirtual 55, 3) := by decide +kernel
theorem dTo_evidence_40 : decode cTo_evidence 40 = .ok (.aload_n 0, 1) := by decide +kernel
theorem dTo_evidence_41 : decode cTo_evidence 41 = .ok (.getfield 37, 3) := by decide +kernel
theorem dTo_evidence_44 : decode cTo_evidence 44 = .ok (.getfield 107, 3) := by decide +kernel
theorem dTo_evidence_47 : decode cTo_evidence 47 = .ok (.iload_n 1, 1) := by decide +kernel
theorem dTo_evidence_48 : decode cTo_evidence 48 = .ok (.iaload, 1) := by decide +kernel
theorem dTo_evidence_49 : decode cTo_evidence 49 = .ok (.istore_n 3, 1) := by decide +kernel
theorem dTo_evidence_50 : decode cTo_evidence 50 = .ok (.aload_n 0, 1) := by decide +kernel
theorem dTo_evidence_51 : decode cTo_evidence 51 = .ok (.getfield 37, 3) := by decide +kernel
theorem dTo_evidence_54 : decode cTo_evidence 54 = .ok (.getfield 107, 3) := by decide +kernel
theorem dTo_evidence_57 : decode cTo_evidence 57 = .ok (.iload_n 1, 1) := by decide +kernel
theorem dTo_evidence_58 : decode cTo_evidence 58 = .ok (.iload_n 2, 1) := by decide +kernel
theorem dTo_evidence_59 : decode cTo_evidence 59 = .ok (.iastore, 1) := by decide +kernel
theorem dTo_evidence_60 : decode cTo_evidence 60 = .ok (.iload_n 3, 1) := by decide +kernel
theorem dTo_evidence_61 : decode cTo_evidence 61 = .ok (.ireturn, 1) := by decide +kernel
abbrev cTo_memory : ByteArray := prog_1_method_7_code
def yTo_memory : MethodName := ⟨RTo, "memory", "(I)I"⟩
theorem dTo_memory_0 : decode cTo_memory 0 = .ok (.iload_n 1, 1) := by decide +kernel
theorem dTo_memory_1 : decode cTo_memory 1 = .ok (.iconst 1, 1) := by decide +kernel
theorem dTo_memory_2 : decode cTo_memory 2 = .ok (.if_icmp .lt 9, 3) := by decide +kernel
theorem dTo_memory_5 : decode cTo_memory 5 = .ok (.iload_n 1, 1) := by decide +kernel
theorem dTo_memory_6 : decode cTo_memory 6 = .ok (.ldc 41, 2) := by decide +kernel
theorem dTo_memory_8 : decode cTo_memory 8 = .ok (.if_icmp .le 6, 3) := by decide +kernel
theorem dTo_memory_11 : decode cTo_memory 11 = .ok (.bipush (-2), 2) := by decide +kernel
theorem dTo_memory_13 : decode cTo_memory 13 = .ok (.ireturn, 1) := by decide +kernel
theorem dTo_memory_14 : decode cTo_memory 14 = .ok (.aload_n 0, 1) := by decide +kernel
theorem dTo_memory_15 : decode cTo_memory 15 = .ok (.getfield 42, 3) := by decide +kernel
theorem dTo_memory_18 : decode cTo_memory 18 = .ok (.istore_n 2, 1) := by decide +kernel
theorem dTo_memory_19 : decode cTo_memory 19 = .ok (.aload_n 0, 1) := by decide +kernel
theorem dTo_memory_20 : decode cTo_memory 20 = .ok (.iload_n 1, 1) := by decide +kernel
theorem dTo_memory_21 : decode cTo_memory 21 = .ok (.putfield 42, 3) := by decide +kernel
theorem dTo_memory_24 : decode cTo_memory 24 = .ok (.iload_n 2, 1) := by decide +kernel
theorem dTo_memory_25 : decode cTo_memory 25 = .ok (.ireturn, 1) := by decide +kernel
abbrev cTo_place : ByteArray := prog_1_method_8_code
def yTo_place : MethodName := ⟨RTo, "place", "(II)I"⟩
theorem dTo_place_0 : decode cTo_place 0 = .ok (.iload_n 1, 1) := by decide +kernel
theorem dTo_place_1 : decode cTo_place 1 = .ok (.ifCond .lt 9, 3) := by decide +kernel
theorem dTo_place_4 : decode cTo_place 4 = .ok (.iload_n 1, 1) := by decide +kernel
theorem dTo_place_5 : decode cTo_place 5 = .ok (.bipush 12, 2) := by decide +kernel
theorem dTo_place_7 : decode cTo_place 7 = .ok (.if_icmp .lt 6, 3) := by decide +kernel
theorem dTo_place_10 : decode cTo_place 10 = .ok (.bipush (-2), 2) := by decide +kernel
theorem dTo_place_12 : decode cTo_place 12 = .ok (.ireturn, 1) := by decide +kernel
theorem dTo_place_13 : decode cTo_place 13 = .ok (.aload_n 0, 1) := by decide +kernel
theorem dTo_place_14 : decode cTo_place 14 = .ok (.getfield 10, 3) := by decide +kernel
theorem dTo_place_17 : decode cTo_place 17 = .ok (.iload_n 2, 1) := by decide +kernel
theorem dTo_place_18 : decode cTo_place 18 = .ok (.invokevirtual 100, 3) := by decide +kernel
theorem dTo_place_21 : decode cTo_place 21 = .ok (.ifCond .ne 5, 3) := by decide +kernel
theorem dTo_place_24 : decode cTo_place 24 = .ok (.iconst (-1), 1) := by decide +kernel
theorem dTo_place_25 : decode cTo_place 25 = .ok (.ireturn, 1) := by decide +kernel
theorem dTo_place_26 : decode cTo_place 26 = .ok (.aload_n 0, 1) := by decide +kernel
theorem dTo_place_27 : decode cTo_place 27 = .ok (.getfield 28, 3) := by decide +kernel
theorem dTo_place_30 : decode cTo_place 30 = .ok (.getfield 110, 3) := by decide +kernel
theorem dTo_place_33 : decode cTo_place 33 = .ok (.iload_n 1, 1) := by decide +kernel
theorem dTo_place_34 : decode cTo_place 34 = .ok (.iaload, 1) := by decide +kernel
theorem dTo_place_35 : decode cTo_place 35 = .ok (.istore_n 3, 1) := by decide +kernel
theorem dTo_place_36 : decode cTo_place 36 = .ok (.aload_n 0, 1) := by decide +kernel
theorem dTo_place_37 : decode cTo_place 37 = .ok (.getfield 28, 3) := by decide +kernel
theorem dTo_place_40 : decode cTo_place 40 = .ok (.getfield 110, 3) := by decide +kernel
theorem dTo_place_43 : decode cTo_place 43 = .ok (.iload_n 1, 1) := by decide +kernel
theorem dTo_place_44 : decode cTo_place 44 = .ok (.iload_n 2, 1) := by decide +kernel
theorem dTo_place_45 : decode cTo_place 45 = .ok (.iastore, 1) := by decide +kernel
theorem dTo_place_46 : decode cTo_place 46 = .ok (.iload_n 3, 1) := by decide +kernel
theorem dTo_place_47 : decode cTo_place 47 = .ok (.ireturn, 1) := by decide +kernel
abbrev cTo_order : ByteArray := prog_1_method_9_code
def yTo_order : MethodName := ⟨RTo, "order", "(I)I"⟩
theorem dTo_order_0 : decode cTo_order 0 = .ok (.iload_n 1, 1) := by decide +kernel
theorem dTo_order_1 : decode cTo_order 1 = .ok (.ifCond .lt 8, 3) := by decide +kernel
theorem dTo_order_4 : decode cTo_order 4 = .ok (.iload_n 1, 1) := by decide +kernel
theorem dTo_order_5 : decode cTo_order 5 = .ok (.iconst 5, 1) := by decide +kernel
theorem dTo_order_6 : decode cTo_order 6 = .ok (.if_icmp .le 6, 3) := by decide +kernel
theorem dTo_order_9 : decode cTo_order 9 = .ok (.bipush (-2), 2) := by decide +kernel
theorem dTo_order_11 : decode cTo_order 11 = .ok (.ireturn, 1) := by decide +kernel
theorem dTo_order_12 : decode cTo_order 12 = .ok (.iload_n 1, 1) := by decide +kernel
theorem dTo_order_13 : decode cTo_order 13 = .ok (.iconst 1, 1) := by decide +kernel
theorem dTo_order_14 : decode cTo_order 14 = .ok (.if_icmp .ne 16, 3) := by decide +kernel
theorem dTo_order_17 : decode cTo_order 17 = .ok (.aload_n 0, 1) := by decide +kernel
theorem dTo_order_18 : decode cTo_order 18 = .ok (.getfield 28, 3) := by decide +kernel
theorem dTo_order_21 : decode cTo_order 21 = .ok (.invokevirtual 113, 3) := by decide +kernel
theorem dTo_order_24 : decode cTo_order 24 = .ok (.ifCond .ne 6, 3) := by decide +kernel
theorem dTo_order_27 : decode cTo_order 27 = .ok (.bipush (-3), 2) := by decide +kernel
theorem dTo_order_29 : decode cTo_order 29 = .ok (.ireturn, 1) := by decide +kernel
theorem dTo_order_30 : decode cTo_order 30 = .ok (.aload_n 0, 1) := by decide +kernel
theorem dTo_order_31 : decode cTo_order 31 = .ok (.getfield 28, 3) := by decide +kernel
theorem dTo_order_34 : decode cTo_order 34 = .ok (.iload_n 1, 1) := by decide +kernel
theorem dTo_order_35 : decode cTo_order 35 = .ok (.invokevirtual 117, 3) := by decide +kernel
theorem dTo_order_38 : decode cTo_order 38 = .ok (.aload_n 0, 1) := by decide +kernel
theorem dTo_order_39 : decode cTo_order 39 = .ok (.getfield 28, 3) := by decide +kernel
theorem dTo_order_42 : decode cTo_order 42 = .ok (.getfield 120, 3) := by decide +kernel
theorem dTo_order_45 : decode cTo_order 45 = .ok (.ireturn, 1) := by decide +kernel
abbrev cTo_taken : ByteArray := prog_1_method_10_code
def yTo_taken : MethodName := ⟨RTo, "taken", "(II)I"⟩
theorem dTo_taken_0 : decode cTo_taken 0 = .ok (.aload_n 0, 1) := by decide +kernel
theorem dTo_taken_1 : decode cTo_taken 1 = .ok (.getfield 10, 3) := by decide +kernel
theorem dTo_taken_4 : decode cTo_taken 4 = .ok (.iload_n 1, 1) := by decide +kernel
theorem dTo_taken_5 : decode cTo_taken 5 = .ok (.invokevirtual 100, 3) := by decide +kernel
theorem dTo_taken_8 : decode cTo_taken 8 = .ok (.ifCond .ne 5, 3) := by decide +kernel
theorem dTo_taken_11 : decode cTo_taken 11 = .ok (.iconst (-1), 1) := by decide +kernel
theorem dTo_taken_12 : decode cTo_taken 12 = .ok (.ireturn, 1) := by decide +kernel
theorem dTo_taken_13 : decode cTo_taken 13 = .ok (.aload_n 0, 1) := by decide +kernel
theorem dTo_taken_14 : decode cTo_taken 14 = .ok (.getfield 28, 3) := by decide +kernel
theorem dTo_taken_17 : decode cTo_taken 17 = .ok (.invokevirtual 123, 3) := by decide +kernel
theorem dTo_taken_20 : decode cTo_taken 20 = .ok (.iload_n 2, 1) := by decide +kernel
theorem dTo_taken_21 : decode cTo_taken 21 = .ok (.tableswitch 77 0 3 #[31, 41, 51, 60], 31) := by decide +kernel
theorem dTo_taken_52 : decode cTo_taken 52 = .ok (.aload_n 0, 1) := by decide +kernel
theorem dTo_taken_53 : decode cTo_taken 53 = .ok (.getfield 28, 3) := by decide +kernel
theorem dTo_taken_56 : decode cTo_taken 56 = .ok (.getfield 126, 3) := by decide +kernel
theorem dTo_taken_59 : decode cTo_taken 59 = .ok (.iload_n 1, 1) := by decide +kernel
theorem dTo_taken_60 : decode cTo_taken 60 = .ok (.iaload, 1) := by decide +kernel
theorem dTo_taken_61 : decode cTo_taken 61 = .ok (.ireturn, 1) := by decide +kernel
theorem dTo_taken_62 : decode cTo_taken 62 = .ok (.aload_n 0, 1) := by decide +kernel
theorem dTo_taken_63 : decode cTo_taken 63 = .ok (.getfield 28, 3) := by decide +kernel
theorem dTo_taken_66 : decode cTo_taken 66 = .ok (.getfield 129, 3) := by decide +kernel
theorem dTo_taken_69 : decode cTo_taken 69 = .ok (.iload_n 1, 1) := by decide +kernel
theorem dTo_taken_70 : decode cTo_taken 70 = .ok (.iaload, 1) := by decide +kernel
theorem dTo_taken_71 : decode cTo_taken 71 = .ok (.ireturn, 1) := by decide +kernel
theorem dTo_taken_72 : decode cTo_taken 72 = .ok (.aload_n 0, 1) := by decide +kernel
theorem dTo_taken_73 : decode cTo_taken 73 = .ok (.getfield 28, 3) := by decide +kernel
theorem dTo_taken_76 : decode cTo_taken 76 = .ok (.iload_n 1, 1) := by decide +kernel
theorem dTo_taken_77 : decode cTo_taken 77 = .ok (.invokevirtual 132, 3) := by decide +kernel
theorem dTo_taken_80 : decode cTo_taken 80 = .ok (.ireturn, 1) := by decide +kernel
theorem dTo_taken_81 : decode cTo_taken 81 = .ok (.aload_n 0, 1) := by decide +kernel
theorem dTo_taken_82 : decode cTo_taken 82 = .ok (.getfield 10, 3) := by decide +kernel
theorem dTo_taken_85 : decode cTo_taken 85 = .ok (.aload_n 0, 1) := by decide +kernel
theorem dTo_taken_86 : decode cTo_taken 86 = .ok (.getfield 28, 3) := by decide +kernel
theorem dTo_taken_89 : decode cTo_taken 89 = .ok (.getfield 129, 3) := by decide +kernel
theorem dTo_taken_92 : decode cTo_taken 92 = .ok (.iload_n 1, 1) := by decide +kernel
theorem dTo_taken_93 : decode cTo_taken 93 = .ok (.iaload, 1) := by decide +kernel
theorem dTo_taken_94 : decode cTo_taken 94 = .ok (.invokevirtual 135, 3) := by decide +kernel
theorem dTo_taken_97 : decode cTo_taken 97 = .ok (.ireturn, 1) := by decide +kernel
theorem dTo_taken_98 : decode cTo_taken 98 = .ok (.bipush (-2), 2) := by decide +kernel
theorem dTo_taken_100 : decode cTo_taken 100 = .ok (.ireturn, 1) := by decide +kernel
abbrev cTo_told : ByteArray := prog_1_method_11_code
def yTo_told : MethodName := ⟨RTo, "told", "(I)I"⟩
theorem dTo_told_0 : decode cTo_told 0 = .ok (.iload_n 1, 1) := by decide +kernel
theorem dTo_told_1 : decode cTo_told 1 = .ok (.tableswitch 75 0 4 #[35, 43, 51, 59, 67], 35) := by decide +kernel
theorem dTo_told_36 : decode cTo_told 36 = .ok (.aload_n 0, 1) := by decide +kernel
theorem dTo_told_37 : decode cTo_told 37 = .ok (.getfield 10, 3) := by decide +kernel
theorem dTo_told_40 : decode cTo_told 40 = .ok (.getfield 46, 3) := by decide +kernel
theorem dTo_told_43 : decode cTo_told 43 = .ok (.ireturn, 1) := by decide +kernel
theorem dTo_told_44 : decode cTo_told 44 = .ok (.aload_n 0, 1) := by decide +kernel
theorem dTo_told_45 : decode cTo_told 45 = .ok (.getfield 21, 3) := by decide +kernel
theorem dTo_told_48 : decode cTo_told 48 = .ok (.getfield 138, 3) := by decide +kernel
theorem dTo_told_51 : decode cTo_told 51 = .ok (.ireturn, 1) := by decide +kernel
theorem dTo_told_52 : decode cTo_told 52 = .ok (.aload_n 0, 1) := by decide +kernel
theorem dTo_told_53 : decode cTo_told 53 = .ok (.getfield 21, 3) := by decide +kernel
theorem dTo_told_56 : decode cTo_told 56 = .ok (.getfield 69, 3) := by decide +kernel
theorem dTo_told_59 : decode cTo_told 59 = .ok (.ireturn, 1) := by decide +kernel
theorem dTo_told_60 : decode cTo_told 60 = .ok (.aload_n 0, 1) := by decide +kernel
theorem dTo_told_61 : decode cTo_told 61 = .ok (.getfield 10, 3) := by decide +kernel
theorem dTo_told_64 : decode cTo_told 64 = .ok (.getfield 49, 3) := by decide +kernel
theorem dTo_told_67 : decode cTo_told 67 = .ok (.ireturn, 1) := by decide +kernel
theorem dTo_told_68 : decode cTo_told 68 = .ok (.aload_n 0, 1) := by decide +kernel
theorem dTo_told_69 : decode cTo_told 69 = .ok (.getfield 10, 3) := by decide +kernel
theorem dTo_told_72 : decode cTo_told 72 = .ok (.invokevirtual 141, 3) := by decide +kernel
theorem dTo_told_75 : decode cTo_told 75 = .ok (.ireturn, 1) := by decide +kernel
theorem dTo_told_76 : decode cTo_told 76 = .ok (.aload_n 0, 1) := by decide +kernel
theorem dTo_told_77 : decode cTo_told 77 = .ok (.iload_n 1, 1) := by decide +kernel
theorem dTo_told_78 : decode cTo_told 78 = .ok (.invokevirtual 145, 3) := by decide +kernel
theorem dTo_told_81 : decode cTo_told 81 = .ok (.ireturn, 1) := by decide +kernel
abbrev cTo_total : ByteArray := prog_1_method_12_code
def yTo_total : MethodName := ⟨RTo, "total", "()J"⟩
theorem dTo_total_0 : decode cTo_total 0 = .ok (.aload_n 0, 1) := by decide +kernel
theorem dTo_total_1 : decode cTo_total 1 = .ok (.invokevirtual 148, 3) := by decide +kernel
theorem dTo_total_4 : decode cTo_total 4 = .ok (.ifCond .eq 7, 3) := by decide +kernel
theorem dTo_total_7 : decode cTo_total 7 = .ok (.ldc2_w 151, 3) := by decide +kernel
theorem dTo_total_10 : decode cTo_total 10 = .ok (.lreturn, 1) := by decide +kernel
theorem dTo_total_11 : decode cTo_total 11 = .ok (.aload_n 0, 1) := by decide +kernel
theorem dTo_total_12 : decode cTo_total 12 = .ok (.getfield 37, 3) := by decide +kernel
theorem dTo_total_15 : decode cTo_total 15 = .ok (.invokevirtual 153, 3) := by decide +kernel
theorem dTo_total_18 : decode cTo_total 18 = .ok (.aload_n 0, 1) := by decide +kernel
theorem dTo_total_19 : decode cTo_total 19 = .ok (.getfield 37, 3) := by decide +kernel
theorem dTo_total_22 : decode cTo_total 22 = .ok (.getfield 154, 3) := by decide +kernel
theorem dTo_total_25 : decode cTo_total 25 = .ok (.lreturn, 1) := by decide +kernel
abbrev cTo_share : ByteArray := prog_1_method_13_code
def yTo_share : MethodName := ⟨RTo, "share", "(III)J"⟩
theorem dTo_share_0 : decode cTo_share 0 = .ok (.aload_n 0, 1) := by decide +kernel
theorem dTo_share_1 : decode cTo_share 1 = .ok (.getfield 10, 3) := by decide +kernel
theorem dTo_share_4 : decode cTo_share 4 = .ok (.iload_n 1, 1) := by decide +kernel
theorem dTo_share_5 : decode cTo_share 5 = .ok (.invokevirtual 60, 3) := by decide +kernel
theorem dTo_share_8 : decode cTo_share 8 = .ok (.ifCond .ne 7, 3) := by decide +kernel
theorem dTo_share_11 : decode cTo_share 11 = .ok (.ldc2_w 158, 3) := by decide +kernel
theorem dTo_share_14 : decode cTo_share 14 = .ok (.lreturn, 1) := by decide +kernel
theorem dTo_share_15 : decode cTo_share 15 = .ok (.iload_n 2, 1) := by decide +kernel
theorem dTo_share_16 : decode cTo_share 16 = .ok (.ifCond .lt 24, 3) := by decide +kernel
theorem dTo_share_19 : decode cTo_share 19 = .ok (.iload_n 2, 1) := by decide +kernel
theorem dTo_share_20 : decode cTo_share 20 = .ok (.aload_n 0, 1) := by decide +kernel
theorem dTo_share_21 : decode cTo_share 21 = .ok (.getfield 10, 3) := by decide +kernel
theorem dTo_share_24 : decode cTo_share 24 = .ok (.iload_n 1, 1) := by decide +kernel
theorem dTo_share_25 : decode cTo_share 25 = .ok (.invokevirtual 135, 3) := by decide +kernel
theorem dTo_share_28 : decode cTo_share 28 = .ok (.if_icmp .ge 12, 3) := by decide +kernel
theorem dTo_share_31 : decode cTo_share 31 = .ok (.iload_n 3, 1) := by decide +kernel
theorem dTo_share_32 : decode cTo_share 32 = .ok (.ifCond .lt 8, 3) := by decide +kernel
theorem dTo_share_35 : decode cTo_share 35 = .ok (.iload_n 3, 1) := by decide +kernel
theorem dTo_share_36 : decode cTo_share 36 = .ok (.iconst 1, 1) := by decide +kernel
theorem dTo_share_37 : decode cTo_share 37 = .ok (.if_icmp .le 7, 3) := by decide +kernel
theorem dTo_share_40 : decode cTo_share 40 = .ok (.ldc2_w 160, 3) := by decide +kernel
theorem dTo_share_43 : decode cTo_share 43 = .ok (.lreturn, 1) := by decide +kernel
theorem dTo_share_44 : decode cTo_share 44 = .ok (.aload_n 0, 1) := by decide +kernel
theorem dTo_share_45 : decode cTo_share 45 = .ok (.invokevirtual 148, 3) := by decide +kernel
theorem dTo_share_48 : decode cTo_share 48 = .ok (.ifCond .eq 7, 3) := by decide +kernel
theorem dTo_share_51 : decode cTo_share 51 = .ok (.ldc2_w 151, 3) := by decide +kernel
theorem dTo_share_54 : decode cTo_share 54 = .ok (.lreturn, 1) := by decide +kernel
theorem dTo_share_55 : decode cTo_share 55 = .ok (.aload_n 0, 1) := by decide +kernel
theorem dTo_share_56 : decode cTo_share 56 = .ok (.getfield 37, 3) := by decide +kernel
theorem dTo_share_59 : decode cTo_share 59 = .ok (.invokevirtual 153, 3) := by decide +kernel
theorem dTo_share_62 : decode cTo_share 62 = .ok (.aload_n 0, 1) := by decide +kernel
theorem dTo_share_63 : decode cTo_share 63 = .ok (.getfield 37, 3) := by decide +kernel
theorem dTo_share_66 : decode cTo_share 66 = .ok (.getfield 154, 3) := by decide +kernel
theorem dTo_share_69 : decode cTo_share 69 = .ok (.lconst 0, 1) := by decide +kernel
theorem dTo_share_70 : decode cTo_share 70 = .ok (.lcmp, 1) := by decide +kernel
theorem dTo_share_71 : decode cTo_share 71 = .ok (.ifCond .gt 7, 3) := by decide +kernel
theorem dTo_share_74 : decode cTo_share 74 = .ok (.ldc2_w 162, 3) := by decide +kernel
theorem dTo_share_77 : decode cTo_share 77 = .ok (.lreturn, 1) := by decide +kernel
theorem dTo_share_78 : decode cTo_share 78 = .ok (.aload_n 0, 1) := by decide +kernel
theorem dTo_share_79 : decode cTo_share 79 = .ok (.getfield 37, 3) := by decide +kernel
theorem dTo_share_82 : decode cTo_share 82 = .ok (.iload_n 1, 1) := by decide +kernel
theorem dTo_share_83 : decode cTo_share 83 = .ok (.iload_n 2, 1) := by decide +kernel
theorem dTo_share_84 : decode cTo_share 84 = .ok (.invokevirtual 164, 3) := by decide +kernel
theorem dTo_share_87 : decode cTo_share 87 = .ok (.aload_n 0, 1) := by decide +kernel
theorem dTo_share_88 : decode cTo_share 88 = .ok (.getfield 37, 3) := by decide +kernel
theorem dTo_share_91 : decode cTo_share 91 = .ok (.getfield 168, 3) := by decide +kernel
theorem dTo_share_94 : decode cTo_share 94 = .ok (.aload_n 0, 1) := by decide +kernel
theorem dTo_share_95 : decode cTo_share 95 = .ok (.getfield 37, 3) := by decide +kernel
theorem dTo_share_98 : decode cTo_share 98 = .ok (.getfield 154, 3) := by decide +kernel
theorem dTo_share_101 : decode cTo_share 101 = .ok (.invokestatic 171, 3) := by decide +kernel
theorem dTo_share_104 : decode cTo_share 104 = .ok (.lstore 4, 2) := by decide +kernel
theorem dTo_share_106 : decode cTo_share 106 = .ok (.lload 4, 2) := by decide +kernel
theorem dTo_share_108 : decode cTo_share 108 = .ok (.lconst 0, 1) := by decide +kernel
theorem dTo_share_109 : decode cTo_share 109 = .ok (.lcmp, 1) := by decide +kernel
theorem dTo_share_110 : decode cTo_share 110 = .ok (.ifCond .gt 7, 3) := by decide +kernel
theorem dTo_share_113 : decode cTo_share 113 = .ok (.ldc2_w 162, 3) := by decide +kernel
theorem dTo_share_116 : decode cTo_share 116 = .ok (.lreturn, 1) := by decide +kernel
theorem dTo_share_117 : decode cTo_share 117 = .ok (.iload_n 3, 1) := by decide +kernel
theorem dTo_share_118 : decode cTo_share 118 = .ok (.ifCond .ne 13, 3) := by decide +kernel
theorem dTo_share_121 : decode cTo_share 121 = .ok (.aload_n 0, 1) := by decide +kernel
theorem dTo_share_122 : decode cTo_share 122 = .ok (.getfield 37, 3) := by decide +kernel
theorem dTo_share_125 : decode cTo_share 125 = .ok (.getfield 168, 3) := by decide +kernel
theorem dTo_share_128 : decode cTo_share 128 = .ok (.goto 10, 3) := by decide +kernel
theorem dTo_share_131 : decode cTo_share 131 = .ok (.aload_n 0, 1) := by decide +kernel
theorem dTo_share_132 : decode cTo_share 132 = .ok (.getfield 37, 3) := by decide +kernel
theorem dTo_share_135 : decode cTo_share 135 = .ok (.getfield 154, 3) := by decide +kernel
theorem dTo_share_138 : decode cTo_share 138 = .ok (.lload 4, 2) := by decide +kernel
theorem dTo_share_140 : decode cTo_share 140 = .ok (.ldiv, 1) := by decide +kernel
theorem dTo_share_141 : decode cTo_share 141 = .ok (.lreturn, 1) := by decide +kernel
abbrev cTo_greatest : ByteArray := prog_1_method_14_code
def yTo_greatest : MethodName := ⟨RTo, "greatest", "()J"⟩
theorem dTo_greatest_0 : decode cTo_greatest 0 = .ok (.aload_n 0, 1) := by decide +kernel
theorem dTo_greatest_1 : decode cTo_greatest 1 = .ok (.invokevirtual 148, 3) := by decide +kernel
theorem dTo_greatest_4 : decode cTo_greatest 4 = .ok (.ifCond .eq 7, 3) := by decide +kernel
theorem dTo_greatest_7 : decode cTo_greatest 7 = .ok (.ldc2_w 151, 3) := by decide +kernel
theorem dTo_greatest_10 : decode cTo_greatest 10 = .ok (.lreturn, 1) := by decide +kernel
theorem dTo_greatest_11 : decode cTo_greatest 11 = .ok (.aload_n 0, 1) := by decide +kernel
theorem dTo_greatest_12 : decode cTo_greatest 12 = .ok (.getfield 37, 3) := by decide +kernel
theorem dTo_greatest_15 : decode cTo_greatest 15 = .ok (.invokevirtual 153, 3) := by decide +kernel
theorem dTo_greatest_18 : decode cTo_greatest 18 = .ok (.aload_n 0, 1) := by decide +kernel
theorem dTo_greatest_19 : decode cTo_greatest 19 = .ok (.getfield 37, 3) := by decide +kernel
theorem dTo_greatest_22 : decode cTo_greatest 22 = .ok (.getfield 175, 3) := by decide +kernel
theorem dTo_greatest_25 : decode cTo_greatest 25 = .ok (.ifCond .le 15, 3) := by decide +kernel
theorem dTo_greatest_28 : decode cTo_greatest 28 = .ok (.aload_n 0, 1) := by decide +kernel
theorem dTo_greatest_29 : decode cTo_greatest 29 = .ok (.getfield 37, 3) := by decide +kernel
theorem dTo_greatest_32 : decode cTo_greatest 32 = .ok (.getfield 178, 3) := by decide +kernel
theorem dTo_greatest_35 : decode cTo_greatest 35 = .ok (.iconst 0, 1) := by decide +kernel
theorem dTo_greatest_36 : decode cTo_greatest 36 = .ok (.laload, 1) := by decide +kernel
theorem dTo_greatest_37 : decode cTo_greatest 37 = .ok (.goto 4, 3) := by decide +kernel
theorem dTo_greatest_40 : decode cTo_greatest 40 = .ok (.lconst 0, 1) := by decide +kernel
theorem dTo_greatest_41 : decode cTo_greatest 41 = .ok (.lreturn, 1) := by decide +kernel
abbrev cTo_best : ByteArray := prog_1_method_15_code
def yTo_best : MethodName := ⟨RTo, "best", "(I)I"⟩
theorem dTo_best_0 : decode cTo_best 0 = .ok (.aload_n 0, 1) := by decide +kernel
theorem dTo_best_1 : decode cTo_best 1 = .ok (.getfield 10, 3) := by decide +kernel
theorem dTo_best_4 : decode cTo_best 4 = .ok (.iload_n 1, 1) := by decide +kernel
theorem dTo_best_5 : decode cTo_best 5 = .ok (.invokevirtual 100, 3) := by decide +kernel
theorem dTo_best_8 : decode cTo_best 8 = .ok (.ifCond .ne 5, 3) := by decide +kernel
theorem dTo_best_11 : decode cTo_best 11 = .ok (.iconst (-1), 1) := by decide +kernel
theorem dTo_best_12 : decode cTo_best 12 = .ok (.ireturn, 1) := by decide +kernel
theorem dTo_best_13 : decode cTo_best 13 = .ok (.aload_n 0, 1) := by decide +kernel
theorem dTo_best_14 : decode cTo_best 14 = .ok (.invokevirtual 148, 3) := by decide +kernel
theorem dTo_best_17 : decode cTo_best 17 = .ok (.ifCond .eq 6, 3) := by decide +kernel
theorem dTo_best_20 : decode cTo_best 20 = .ok (.bipush (-4), 2) := by decide +kernel
theorem dTo_best_22 : decode cTo_best 22 = .ok (.ireturn, 1) := by decide +kernel
theorem dTo_best_23 : decode cTo_best 23 = .ok (.aload_n 0, 1) := by decide +kernel
theorem dTo_best_24 : decode cTo_best 24 = .ok (.getfield 37, 3) := by decide +kernel
theorem dTo_best_27 : decode cTo_best 27 = .ok (.invokevirtual 153, 3) := by decide +kernel
theorem dTo_best_30 : decode cTo_best 30 = .ok (.aload_n 0, 1) := by decide +kernel
theorem dTo_best_31 : decode cTo_best 31 = .ok (.getfield 37, 3) := by decide +kernel
theorem dTo_best_34 : decode cTo_best 34 = .ok (.getfield 175, 3) := by decide +kernel
theorem dTo_best_37 : decode cTo_best 37 = .ok (.ifCond .le 23, 3) := by decide +kernel
theorem dTo_best_40 : decode cTo_best 40 = .ok (.aload_n 0, 1) := by decide +kernel
theorem dTo_best_41 : decode cTo_best 41 = .ok (.getfield 10, 3) := by decide +kernel
theorem dTo_best_44 : decode cTo_best 44 = .ok (.aload_n 0, 1) := by decide +kernel
theorem dTo_best_45 : decode cTo_best 45 = .ok (.getfield 37, 3) := by decide +kernel
theorem dTo_best_48 : decode cTo_best 48 = .ok (.getfield 182, 3) := by decide +kernel
theorem dTo_best_51 : decode cTo_best 51 = .ok (.iconst 0, 1) := by decide +kernel
theorem dTo_best_52 : decode cTo_best 52 = .ok (.iaload, 1) := by decide +kernel
theorem dTo_best_53 : decode cTo_best 53 = .ok (.iload_n 1, 1) := by decide +kernel
theorem dTo_best_54 : decode cTo_best 54 = .ok (.invokevirtual 185, 3) := by decide +kernel
theorem dTo_best_57 : decode cTo_best 57 = .ok (.goto 5, 3) := by decide +kernel
theorem dTo_best_60 : decode cTo_best 60 = .ok (.bipush (-3), 2) := by decide +kernel
theorem dTo_best_62 : decode cTo_best 62 = .ok (.ireturn, 1) := by decide +kernel
abbrev cTo_rank : ByteArray := prog_1_method_16_code
def yTo_rank : MethodName := ⟨RTo, "rank", "(II)J"⟩
theorem dTo_rank_0 : decode cTo_rank 0 = .ok (.iload_n 2, 1) := by decide +kernel
theorem dTo_rank_1 : decode cTo_rank 1 = .ok (.iconst (-1), 1) := by decide +kernel
theorem dTo_rank_2 : decode cTo_rank 2 = .ok (.if_icmp .eq 18, 3) := by decide +kernel
theorem dTo_rank_5 : decode cTo_rank 5 = .ok (.aload_n 0, 1) := by decide +kernel
theorem dTo_rank_6 : decode cTo_rank 6 = .ok (.getfield 10, 3) := by decide +kernel
theorem dTo_rank_9 : decode cTo_rank 9 = .ok (.iload_n 2, 1) := by decide +kernel
theorem dTo_rank_10 : decode cTo_rank 10 = .ok (.invokevirtual 100, 3) := by decide +kernel
theorem dTo_rank_13 : decode cTo_rank 13 = .ok (.ifCond .ne 7, 3) := by decide +kernel
theorem dTo_rank_16 : decode cTo_rank 16 = .ok (.ldc2_w 158, 3) := by decide +kernel
theorem dTo_rank_19 : decode cTo_rank 19 = .ok (.lreturn, 1) := by decide +kernel
theorem dTo_rank_20 : decode cTo_rank 20 = .ok (.iload_n 1, 1) := by decide +kernel
theorem dTo_rank_21 : decode cTo_rank 21 = .ok (.ifCond .lt 9, 3) := by decide +kernel
theorem dTo_rank_24 : decode cTo_rank 24 = .ok (.iload_n 1, 1) := by decide +kernel
theorem dTo_rank_25 : decode cTo_rank 25 = .ok (.bipush 24, 2) := by decide +kernel
theorem dTo_rank_27 : decode cTo_rank 27 = .ok (.if_icmp .lt 7, 3) := by decide +kernel
theorem dTo_rank_30 : decode cTo_rank 30 = .ok (.ldc2_w 160, 3) := by decide +kernel
theorem dTo_rank_33 : decode cTo_rank 33 = .ok (.lreturn, 1) := by decide +kernel
theorem dTo_rank_34 : decode cTo_rank 34 = .ok (.aload_n 0, 1) := by decide +kernel
theorem dTo_rank_35 : decode cTo_rank 35 = .ok (.invokevirtual 148, 3) := by decide +kernel
theorem dTo_rank_38 : decode cTo_rank 38 = .ok (.ifCond .eq 7, 3) := by decide +kernel
theorem dTo_rank_41 : decode cTo_rank 41 = .ok (.ldc2_w 151, 3) := by decide +kernel
theorem dTo_rank_44 : decode cTo_rank 44 = .ok (.lreturn, 1) := by decide +kernel
theorem dTo_rank_45 : decode cTo_rank 45 = .ok (.aload_n 0, 1) := by decide +kernel
theorem dTo_rank_46 : decode cTo_rank 46 = .ok (.getfield 37, 3) := by decide +kernel
theorem dTo_rank_49 : decode cTo_rank 49 = .ok (.invokevirtual 153, 3) := by decide +kernel
theorem dTo_rank_52 : decode cTo_rank 52 = .ok (.iload_n 1, 1) := by decide +kernel
theorem dTo_rank_53 : decode cTo_rank 53 = .ok (.aload_n 0, 1) := by decide +kernel
theorem dTo_rank_54 : decode cTo_rank 54 = .ok (.getfield 37, 3) := by decide +kernel
theorem dTo_rank_57 : decode cTo_rank 57 = .ok (.getfield 175, 3) := by decide +kernel
theorem dTo_rank_60 : decode cTo_rank 60 = .ok (.if_icmp .lt 7, 3) := by decide +kernel
theorem dTo_rank_63 : decode cTo_rank 63 = .ok (.ldc2_w 162, 3) := by decide +kernel
theorem dTo_rank_66 : decode cTo_rank 66 = .ok (.lreturn, 1) := by decide +kernel
theorem dTo_rank_67 : decode cTo_rank 67 = .ok (.iload_n 2, 1) := by decide +kernel
theorem dTo_rank_68 : decode cTo_rank 68 = .ok (.iconst (-1), 1) := by decide +kernel
theorem dTo_rank_69 : decode cTo_rank 69 = .ok (.if_icmp .ne 15, 3) := by decide +kernel
theorem dTo_rank_72 : decode cTo_rank 72 = .ok (.aload_n 0, 1) := by decide +kernel
theorem dTo_rank_73 : decode cTo_rank 73 = .ok (.getfield 37, 3) := by decide +kernel
theorem dTo_rank_76 : decode cTo_rank 76 = .ok (.getfield 178, 3) := by decide +kernel
theorem dTo_rank_79 : decode cTo_rank 79 = .ok (.iload_n 1, 1) := by decide +kernel
theorem dTo_rank_80 : decode cTo_rank 80 = .ok (.laload, 1) := by decide +kernel
theorem dTo_rank_81 : decode cTo_rank 81 = .ok (.goto 21, 3) := by decide +kernel
theorem dTo_rank_84 : decode cTo_rank 84 = .ok (.aload_n 0, 1) := by decide +kernel
theorem dTo_rank_85 : decode cTo_rank 85 = .ok (.getfield 10, 3) := by decide +kernel
theorem dTo_rank_88 : decode cTo_rank 88 = .ok (.aload_n 0, 1) := by decide +kernel
theorem dTo_rank_89 : decode cTo_rank 89 = .ok (.getfield 37, 3) := by decide +kernel
theorem dTo_rank_92 : decode cTo_rank 92 = .ok (.getfield 182, 3) := by decide +kernel
theorem dTo_rank_95 : decode cTo_rank 95 = .ok (.iload_n 1, 1) := by decide +kernel
theorem dTo_rank_96 : decode cTo_rank 96 = .ok (.iaload, 1) := by decide +kernel
theorem dTo_rank_97 : decode cTo_rank 97 = .ok (.iload_n 2, 1) := by decide +kernel
theorem dTo_rank_98 : decode cTo_rank 98 = .ok (.invokevirtual 185, 3) := by decide +kernel
theorem dTo_rank_101 : decode cTo_rank 101 = .ok (.i2l, 1) := by decide +kernel
theorem dTo_rank_102 : decode cTo_rank 102 = .ok (.lreturn, 1) := by decide +kernel
abbrev cTo_support : ByteArray := prog_1_method_17_code
def yTo_support : MethodName := ⟨RTo, "support", "()I"⟩
theorem dTo_support_0 : decode cTo_support 0 = .ok (.aload_n 0, 1) := by decide +kernel
theorem dTo_support_1 : decode cTo_support 1 = .ok (.invokevirtual 148, 3) := by decide +kernel
theorem dTo_support_4 : decode cTo_support 4 = .ok (.ifCond .eq 6, 3) := by decide +kernel
theorem dTo_support_7 : decode cTo_support 7 = .ok (.bipush (-4), 2) := by decide +kernel
theorem dTo_support_9 : decode cTo_support 9 = .ok (.ireturn, 1) := by decide +kernel
theorem dTo_support_10 : decode cTo_support 10 = .ok (.aload_n 0, 1) := by decide +kernel
theorem dTo_support_11 : decode cTo_support 11 = .ok (.getfield 37, 3) := by decide +kernel
theorem dTo_support_14 : decode cTo_support 14 = .ok (.invokevirtual 153, 3) := by decide +kernel
theorem dTo_support_17 : decode cTo_support 17 = .ok (.aload_n 0, 1) := by decide +kernel
theorem dTo_support_18 : decode cTo_support 18 = .ok (.getfield 37, 3) := by decide +kernel
theorem dTo_support_21 : decode cTo_support 21 = .ok (.getfield 188, 3) := by decide +kernel
theorem dTo_support_24 : decode cTo_support 24 = .ok (.ireturn, 1) := by decide +kernel
abbrev cTo_among : ByteArray := prog_1_method_18_code
def yTo_among : MethodName := ⟨RTo, "among", "(II)I"⟩
theorem dTo_among_0 : decode cTo_among 0 = .ok (.aload_n 0, 1) := by decide +kernel
theorem dTo_among_1 : decode cTo_among 1 = .ok (.getfield 10, 3) := by decide +kernel
theorem dTo_among_4 : decode cTo_among 4 = .ok (.iload_n 1, 1) := by decide +kernel
theorem dTo_among_5 : decode cTo_among 5 = .ok (.invokevirtual 100, 3) := by decide +kernel
theorem dTo_among_8 : decode cTo_among 8 = .ok (.ifCond .ne 5, 3) := by decide +kernel
theorem dTo_among_11 : decode cTo_among 11 = .ok (.iconst (-1), 1) := by decide +kernel
theorem dTo_among_12 : decode cTo_among 12 = .ok (.ireturn, 1) := by decide +kernel
theorem dTo_among_13 : decode cTo_among 13 = .ok (.aload_n 0, 1) := by decide +kernel
theorem dTo_among_14 : decode cTo_among 14 = .ok (.getfield 10, 3) := by decide +kernel
theorem dTo_among_17 : decode cTo_among 17 = .ok (.iload_n 1, 1) := by decide +kernel
theorem dTo_among_18 : decode cTo_among 18 = .ok (.iload_n 2, 1) := by decide +kernel
theorem dTo_among_19 : decode cTo_among 19 = .ok (.invokevirtual 103, 3) := by decide +kernel
theorem dTo_among_22 : decode cTo_among 22 = .ok (.ifCond .ne 6, 3) := by decide +kernel
theorem dTo_among_25 : decode cTo_among 25 = .ok (.bipush (-2), 2) := by decide +kernel
theorem dTo_among_27 : decode cTo_among 27 = .ok (.ireturn, 1) := by decide +kernel
theorem dTo_among_28 : decode cTo_among 28 = .ok (.aload_n 0, 1) := by decide +kernel
theorem dTo_among_29 : decode cTo_among 29 = .ok (.invokevirtual 148, 3) := by decide +kernel
theorem dTo_among_32 : decode cTo_among 32 = .ok (.ifCond .eq 6, 3) := by decide +kernel
theorem dTo_among_35 : decode cTo_among 35 = .ok (.bipush (-4), 2) := by decide +kernel
theorem dTo_among_37 : decode cTo_among 37 = .ok (.ireturn, 1) := by decide +kernel
theorem dTo_among_38 : decode cTo_among 38 = .ok (.aload_n 0, 1) := by decide +kernel
theorem dTo_among_39 : decode cTo_among 39 = .ok (.getfield 37, 3) := by decide +kernel
theorem dTo_among_42 : decode cTo_among 42 = .ok (.invokevirtual 153, 3) := by decide +kernel
theorem dTo_among_45 : decode cTo_among 45 = .ok (.aload_n 0, 1) := by decide +kernel
theorem dTo_among_46 : decode cTo_among 46 = .ok (.getfield 37, 3) := by decide +kernel
theorem dTo_among_49 : decode cTo_among 49 = .ok (.iconst 1, 1) := by decide +kernel
theorem dTo_among_50 : decode cTo_among 50 = .ok (.iload_n 1, 1) := by decide +kernel
theorem dTo_among_51 : decode cTo_among 51 = .ok (.ishl, 1) := by decide +kernel
theorem dTo_among_52 : decode cTo_among 52 = .ok (.iload_n 2, 1) := by decide +kernel
theorem dTo_among_53 : decode cTo_among 53 = .ok (.invokevirtual 164, 3) := by decide +kernel
theorem dTo_among_56 : decode cTo_among 56 = .ok (.aload_n 0, 1) := by decide +kernel
theorem dTo_among_57 : decode cTo_among 57 = .ok (.getfield 37, 3) := by decide +kernel
theorem dTo_among_60 : decode cTo_among 60 = .ok (.getfield 191, 3) := by decide +kernel
theorem dTo_among_63 : decode cTo_among 63 = .ok (.ireturn, 1) := by decide +kernel
abbrev cTo_drawn : ByteArray := prog_1_method_19_code
def yTo_drawn : MethodName := ⟨RTo, "drawn", "(JI)I"⟩
theorem dTo_drawn_0 : decode cTo_drawn 0 = .ok (.aload_n 0, 1) := by decide +kernel
theorem dTo_drawn_1 : decode cTo_drawn 1 = .ok (.getfield 10, 3) := by decide +kernel
theorem dTo_drawn_4 : decode cTo_drawn 4 = .ok (.iload_n 3, 1) := by decide +kernel
theorem dTo_drawn_5 : decode cTo_drawn 5 = .ok (.invokevirtual 100, 3) := by decide +kernel
theorem dTo_drawn_8 : decode cTo_drawn 8 = .ok (.ifCond .ne 5, 3) := by decide +kernel
theorem dTo_drawn_11 : decode cTo_drawn 11 = .ok (.iconst (-1), 1) := by decide +kernel
theorem dTo_drawn_12 : decode cTo_drawn 12 = .ok (.ireturn, 1) := by decide +kernel
theorem dTo_drawn_13 : decode cTo_drawn 13 = .ok (.lload_n 1, 1) := by decide +kernel
theorem dTo_drawn_14 : decode cTo_drawn 14 = .ok (.lconst 0, 1) := by decide +kernel
theorem dTo_drawn_15 : decode cTo_drawn 15 = .ok (.lcmp, 1) := by decide +kernel
theorem dTo_drawn_16 : decode cTo_drawn 16 = .ok (.ifCond .ge 6, 3) := by decide +kernel
theorem dTo_drawn_19 : decode cTo_drawn 19 = .ok (.bipush (-2), 2) := by decide +kernel
theorem dTo_drawn_21 : decode cTo_drawn 21 = .ok (.ireturn, 1) := by decide +kernel
theorem dTo_drawn_22 : decode cTo_drawn 22 = .ok (.aload_n 0, 1) := by decide +kernel
theorem dTo_drawn_23 : decode cTo_drawn 23 = .ok (.invokevirtual 148, 3) := by decide +kernel
theorem dTo_drawn_26 : decode cTo_drawn 26 = .ok (.ifCond .eq 6, 3) := by decide +kernel
theorem dTo_drawn_29 : decode cTo_drawn 29 = .ok (.bipush (-4), 2) := by decide +kernel
theorem dTo_drawn_31 : decode cTo_drawn 31 = .ok (.ireturn, 1) := by decide +kernel
theorem dTo_drawn_32 : decode cTo_drawn 32 = .ok (.aload_n 0, 1) := by decide +kernel
theorem dTo_drawn_33 : decode cTo_drawn 33 = .ok (.getfield 37, 3) := by decide +kernel
theorem dTo_drawn_36 : decode cTo_drawn 36 = .ok (.invokevirtual 153, 3) := by decide +kernel
theorem dTo_drawn_39 : decode cTo_drawn 39 = .ok (.lload_n 1, 1) := by decide +kernel
theorem dTo_drawn_40 : decode cTo_drawn 40 = .ok (.aload_n 0, 1) := by decide +kernel
theorem dTo_drawn_41 : decode cTo_drawn 41 = .ok (.getfield 37, 3) := by decide +kernel
theorem dTo_drawn_44 : decode cTo_drawn 44 = .ok (.getfield 154, 3) := by decide +kernel
theorem dTo_drawn_47 : decode cTo_drawn 47 = .ok (.lcmp, 1) := by decide +kernel
theorem dTo_drawn_48 : decode cTo_drawn 48 = .ok (.ifCond .ge 22, 3) := by decide +kernel
theorem dTo_drawn_51 : decode cTo_drawn 51 = .ok (.aload_n 0, 1) := by decide +kernel
theorem dTo_drawn_52 : decode cTo_drawn 52 = .ok (.getfield 10, 3) := by decide +kernel
theorem dTo_drawn_55 : decode cTo_drawn 55 = .ok (.aload_n 0, 1) := by decide +kernel
theorem dTo_drawn_56 : decode cTo_drawn 56 = .ok (.getfield 37, 3) := by decide +kernel
theorem dTo_drawn_59 : decode cTo_drawn 59 = .ok (.lload_n 1, 1) := by decide +kernel
theorem dTo_drawn_60 : decode cTo_drawn 60 = .ok (.invokevirtual 194, 3) := by decide +kernel
theorem dTo_drawn_63 : decode cTo_drawn 63 = .ok (.iload_n 3, 1) := by decide +kernel
theorem dTo_drawn_64 : decode cTo_drawn 64 = .ok (.invokevirtual 185, 3) := by decide +kernel
theorem dTo_drawn_67 : decode cTo_drawn 67 = .ok (.goto 5, 3) := by decide +kernel
theorem dTo_drawn_70 : decode cTo_drawn 70 = .ok (.bipush (-3), 2) := by decide +kernel
theorem dTo_drawn_72 : decode cTo_drawn 72 = .ok (.ireturn, 1) := by decide +kernel
abbrev cTo_apart : ByteArray := prog_1_method_20_code
def yTo_apart : MethodName := ⟨RTo, "apart", "(III)I"⟩
theorem dTo_apart_0 : decode cTo_apart 0 = .ok (.aload_n 0, 1) := by decide +kernel
theorem dTo_apart_1 : decode cTo_apart 1 = .ok (.getfield 10, 3) := by decide +kernel
theorem dTo_apart_4 : decode cTo_apart 4 = .ok (.iload_n 1, 1) := by decide +kernel
theorem dTo_apart_5 : decode cTo_apart 5 = .ok (.invokevirtual 100, 3) := by decide +kernel
theorem dTo_apart_8 : decode cTo_apart 8 = .ok (.ifCond .eq 25, 3) := by decide +kernel
theorem dTo_apart_11 : decode cTo_apart 11 = .ok (.aload_n 0, 1) := by decide +kernel
theorem dTo_apart_12 : decode cTo_apart 12 = .ok (.getfield 10, 3) := by decide +kernel
theorem dTo_apart_15 : decode cTo_apart 15 = .ok (.iload_n 2, 1) := by decide +kernel
theorem dTo_apart_16 : decode cTo_apart 16 = .ok (.invokevirtual 100, 3) := by decide +kernel
theorem dTo_apart_19 : decode cTo_apart 19 = .ok (.ifCond .eq 14, 3) := by decide +kernel
theorem dTo_apart_22 : decode cTo_apart 22 = .ok (.aload_n 0, 1) := by decide +kernel
theorem dTo_apart_23 : decode cTo_apart 23 = .ok (.getfield 10, 3) := by decide +kernel
theorem dTo_apart_26 : decode cTo_apart 26 = .ok (.iload_n 3, 1) := by decide +kernel
theorem dTo_apart_27 : decode cTo_apart 27 = .ok (.invokevirtual 60, 3) := by decide +kernel
theorem dTo_apart_30 : decode cTo_apart 30 = .ok (.ifCond .ne 5, 3) := by decide +kernel
theorem dTo_apart_33 : decode cTo_apart 33 = .ok (.iconst (-1), 1) := by decide +kernel
theorem dTo_apart_34 : decode cTo_apart 34 = .ok (.ireturn, 1) := by decide +kernel
theorem dTo_apart_35 : decode cTo_apart 35 = .ok (.iconst 1, 1) := by decide +kernel
theorem dTo_apart_36 : decode cTo_apart 36 = .ok (.iload_n 1, 1) := by decide +kernel
theorem dTo_apart_37 : decode cTo_apart 37 = .ok (.ishl, 1) := by decide +kernel
theorem dTo_apart_38 : decode cTo_apart 38 = .ok (.iconst 1, 1) := by decide +kernel
theorem dTo_apart_39 : decode cTo_apart 39 = .ok (.iload_n 2, 1) := by decide +kernel
theorem dTo_apart_40 : decode cTo_apart 40 = .ok (.ishl, 1) := by decide +kernel
theorem dTo_apart_41 : decode cTo_apart 41 = .ok (.ior, 1) := by decide +kernel
theorem dTo_apart_42 : decode cTo_apart 42 = .ok (.istore 4, 2) := by decide +kernel
theorem dTo_apart_44 : decode cTo_apart 44 = .ok (.iload 4, 2) := by decide +kernel
theorem dTo_apart_46 : decode cTo_apart 46 = .ok (.iload_n 3, 1) := by decide +kernel
theorem dTo_apart_47 : decode cTo_apart 47 = .ok (.iand, 1) := by decide +kernel
theorem dTo_apart_48 : decode cTo_apart 48 = .ok (.ifCond .eq 5, 3) := by decide +kernel
theorem dTo_apart_51 : decode cTo_apart 51 = .ok (.iconst 1, 1) := by decide +kernel
theorem dTo_apart_52 : decode cTo_apart 52 = .ok (.ireturn, 1) := by decide +kernel
theorem dTo_apart_53 : decode cTo_apart 53 = .ok (.aload_n 0, 1) := by decide +kernel
theorem dTo_apart_54 : decode cTo_apart 54 = .ok (.getfield 10, 3) := by decide +kernel
theorem dTo_apart_57 : decode cTo_apart 57 = .ok (.iload_n 1, 1) := by decide +kernel
theorem dTo_apart_58 : decode cTo_apart 58 = .ok (.iload_n 3, 1) := by decide +kernel
theorem dTo_apart_59 : decode cTo_apart 59 = .ok (.iconst (-1), 1) := by decide +kernel
theorem dTo_apart_60 : decode cTo_apart 60 = .ok (.ixor, 1) := by decide +kernel
theorem dTo_apart_61 : decode cTo_apart 61 = .ok (.invokevirtual 198, 3) := by decide +kernel
theorem dTo_apart_64 : decode cTo_apart 64 = .ok (.iconst 1, 1) := by decide +kernel
theorem dTo_apart_65 : decode cTo_apart 65 = .ok (.iload_n 2, 1) := by decide +kernel
theorem dTo_apart_66 : decode cTo_apart 66 = .ok (.ishl, 1) := by decide +kernel
theorem dTo_apart_67 : decode cTo_apart 67 = .ok (.iand, 1) := by decide +kernel
theorem dTo_apart_68 : decode cTo_apart 68 = .ok (.ifCond .ne 7, 3) := by decide +kernel
theorem dTo_apart_71 : decode cTo_apart 71 = .ok (.iconst 1, 1) := by decide +kernel
theorem dTo_apart_72 : decode cTo_apart 72 = .ok (.goto 4, 3) := by decide +kernel
theorem dTo_apart_75 : decode cTo_apart 75 = .ok (.iconst 0, 1) := by decide +kernel
theorem dTo_apart_76 : decode cTo_apart 76 = .ok (.ireturn, 1) := by decide +kernel
abbrev cTo_weight : ByteArray := prog_1_method_21_code
def yTo_weight : MethodName := ⟨RTo, "weight", "(I)J"⟩
theorem dTo_weight_0 : decode cTo_weight 0 = .ok (.iload_n 1, 1) := by decide +kernel
theorem dTo_weight_1 : decode cTo_weight 1 = .ok (.ifCond .lt 14, 3) := by decide +kernel
theorem dTo_weight_4 : decode cTo_weight 4 = .ok (.iload_n 1, 1) := by decide +kernel
theorem dTo_weight_5 : decode cTo_weight 5 = .ok (.aload_n 0, 1) := by decide +kernel
theorem dTo_weight_6 : decode cTo_weight 6 = .ok (.getfield 10, 3) := by decide +kernel
theorem dTo_weight_9 : decode cTo_weight 9 = .ok (.getfield 49, 3) := by decide +kernel
theorem dTo_weight_12 : decode cTo_weight 12 = .ok (.if_icmp .lt 9, 3) := by decide +kernel
theorem dTo_weight_15 : decode cTo_weight 15 = .ok (.ldc2_w 160, 3) := by decide +kernel
theorem dTo_weight_18 : decode cTo_weight 18 = .ok (.goto 11, 3) := by decide +kernel
theorem dTo_weight_21 : decode cTo_weight 21 = .ok (.aload_n 0, 1) := by decide +kernel
theorem dTo_weight_22 : decode cTo_weight 22 = .ok (.getfield 37, 3) := by decide +kernel
theorem dTo_weight_25 : decode cTo_weight 25 = .ok (.iload_n 1, 1) := by decide +kernel
theorem dTo_weight_26 : decode cTo_weight 26 = .ok (.invokevirtual 201, 3) := by decide +kernel
theorem dTo_weight_29 : decode cTo_weight 29 = .ok (.lreturn, 1) := by decide +kernel
abbrev cTo_toldOfOrder : ByteArray := prog_1_method_22_code
def yTo_toldOfOrder : MethodName := ⟨RTo, "toldOfOrder", "(I)I"⟩
theorem dTo_toldOfOrder_0 : decode cTo_toldOfOrder 0 = .ok (.aload_n 0, 1) := by decide +kernel
theorem dTo_toldOfOrder_1 : decode cTo_toldOfOrder 1 = .ok (.getfield 28, 3) := by decide +kernel
theorem dTo_toldOfOrder_4 : decode cTo_toldOfOrder 4 = .ok (.invokevirtual 123, 3) := by decide +kernel
theorem dTo_toldOfOrder_7 : decode cTo_toldOfOrder 7 = .ok (.iload_n 1, 1) := by decide +kernel
theorem dTo_toldOfOrder_8 : decode cTo_toldOfOrder 8 = .ok (.tableswitch 76 5 9 #[36, 44, 52, 60, 68], 36) := by decide +kernel
theorem dTo_toldOfOrder_44 : decode cTo_toldOfOrder 44 = .ok (.aload_n 0, 1) := by decide +kernel
theorem dTo_toldOfOrder_45 : decode cTo_toldOfOrder 45 = .ok (.getfield 28, 3) := by decide +kernel
theorem dTo_toldOfOrder_48 : decode cTo_toldOfOrder 48 = .ok (.getfield 205, 3) := by decide +kernel
theorem dTo_toldOfOrder_51 : decode cTo_toldOfOrder 51 = .ok (.ireturn, 1) := by decide +kernel
theorem dTo_toldOfOrder_52 : decode cTo_toldOfOrder 52 = .ok (.aload_n 0, 1) := by decide +kernel
theorem dTo_toldOfOrder_53 : decode cTo_toldOfOrder 53 = .ok (.getfield 28, 3) := by decide +kernel
theorem dTo_toldOfOrder_56 : decode cTo_toldOfOrder 56 = .ok (.getfield 120, 3) := by decide +kernel
theorem dTo_toldOfOrder_59 : decode cTo_toldOfOrder 59 = .ok (.ireturn, 1) := by decide +kernel
theorem dTo_toldOfOrder_60 : decode cTo_toldOfOrder 60 = .ok (.aload_n 0, 1) := by decide +kernel
theorem dTo_toldOfOrder_61 : decode cTo_toldOfOrder 61 = .ok (.getfield 28, 3) := by decide +kernel
theorem dTo_toldOfOrder_64 : decode cTo_toldOfOrder 64 = .ok (.getfield 208, 3) := by decide +kernel
theorem dTo_toldOfOrder_67 : decode cTo_toldOfOrder 67 = .ok (.ireturn, 1) := by decide +kernel
theorem dTo_toldOfOrder_68 : decode cTo_toldOfOrder 68 = .ok (.aload_n 0, 1) := by decide +kernel
theorem dTo_toldOfOrder_69 : decode cTo_toldOfOrder 69 = .ok (.getfield 28, 3) := by decide +kernel
theorem dTo_toldOfOrder_72 : decode cTo_toldOfOrder 72 = .ok (.getfield 211, 3) := by decide +kernel
theorem dTo_toldOfOrder_75 : decode cTo_toldOfOrder 75 = .ok (.ireturn, 1) := by decide +kernel
theorem dTo_toldOfOrder_76 : decode cTo_toldOfOrder 76 = .ok (.aload_n 0, 1) := by decide +kernel
theorem dTo_toldOfOrder_77 : decode cTo_toldOfOrder 77 = .ok (.getfield 28, 3) := by decide +kernel
theorem dTo_toldOfOrder_80 : decode cTo_toldOfOrder 80 = .ok (.getfield 214, 3) := by decide +kernel
theorem dTo_toldOfOrder_83 : decode cTo_toldOfOrder 83 = .ok (.ireturn, 1) := by decide +kernel
theorem dTo_toldOfOrder_84 : decode cTo_toldOfOrder 84 = .ok (.bipush (-2), 2) := by decide +kernel
theorem dTo_toldOfOrder_86 : decode cTo_toldOfOrder 86 = .ok (.ireturn, 1) := by decide +kernel
abbrev cTo_lacksMemory : ByteArray := prog_1_method_23_code
def yTo_lacksMemory : MethodName := ⟨RTo, "lacksMemory", "()Z"⟩
theorem dTo_lacksMemory_0 : decode cTo_lacksMemory 0 = .ok (.aload_n 0, 1) := by decide +kernel
theorem dTo_lacksMemory_1 : decode cTo_lacksMemory 1 = .ok (.getfield 28, 3) := by decide +kernel
theorem dTo_lacksMemory_4 : decode cTo_lacksMemory 4 = .ok (.invokevirtual 123, 3) := by decide +kernel
theorem dTo_lacksMemory_7 : decode cTo_lacksMemory 7 = .ok (.aload_n 0, 1) := by decide +kernel
theorem dTo_lacksMemory_8 : decode cTo_lacksMemory 8 = .ok (.getfield 28, 3) := by decide +kernel
theorem dTo_lacksMemory_11 : decode cTo_lacksMemory 11 = .ok (.getfield 214, 3) := by decide +kernel
theorem dTo_lacksMemory_14 : decode cTo_lacksMemory 14 = .ok (.aload_n 0, 1) := by decide +kernel
theorem dTo_lacksMemory_15 : decode cTo_lacksMemory 15 = .ok (.getfield 42, 3) := by decide +kernel
theorem dTo_lacksMemory_18 : decode cTo_lacksMemory 18 = .ok (.if_icmp .le 7, 3) := by decide +kernel
theorem dTo_lacksMemory_21 : decode cTo_lacksMemory 21 = .ok (.iconst 1, 1) := by decide +kernel
theorem dTo_lacksMemory_22 : decode cTo_lacksMemory 22 = .ok (.goto 4, 3) := by decide +kernel
theorem dTo_lacksMemory_25 : decode cTo_lacksMemory 25 = .ok (.iconst 0, 1) := by decide +kernel
theorem dTo_lacksMemory_26 : decode cTo_lacksMemory 26 = .ok (.ireturn, 1) := by decide +kernel
abbrev cTo_commonDivisor : ByteArray := prog_1_method_24_code
def yTo_commonDivisor : MethodName := ⟨RTo, "commonDivisor", "(JJ)J"⟩
theorem dTo_commonDivisor_0 : decode cTo_commonDivisor 0 = .ok (.lload_n 0, 1) := by decide +kernel
theorem dTo_commonDivisor_1 : decode cTo_commonDivisor 1 = .ok (.lstore 4, 2) := by decide +kernel
theorem dTo_commonDivisor_3 : decode cTo_commonDivisor 3 = .ok (.lload_n 2, 1) := by decide +kernel
theorem dTo_commonDivisor_4 : decode cTo_commonDivisor 4 = .ok (.lstore 6, 2) := by decide +kernel
theorem dTo_commonDivisor_6 : decode cTo_commonDivisor 6 = .ok (.iconst 0, 1) := by decide +kernel
theorem dTo_commonDivisor_7 : decode cTo_commonDivisor 7 = .ok (.istore 8, 2) := by decide +kernel
theorem dTo_commonDivisor_9 : decode cTo_commonDivisor 9 = .ok (.iload 8, 2) := by decide +kernel
theorem dTo_commonDivisor_11 : decode cTo_commonDivisor 11 = .ok (.sipush 128, 3) := by decide +kernel
theorem dTo_commonDivisor_14 : decode cTo_commonDivisor 14 = .ok (.if_icmp .ge 31, 3) := by decide +kernel
theorem dTo_commonDivisor_17 : decode cTo_commonDivisor 17 = .ok (.lload 6, 2) := by decide +kernel
theorem dTo_commonDivisor_19 : decode cTo_commonDivisor 19 = .ok (.lconst 0, 1) := by decide +kernel
theorem dTo_commonDivisor_20 : decode cTo_commonDivisor 20 = .ok (.lcmp, 1) := by decide +kernel
theorem dTo_commonDivisor_21 : decode cTo_commonDivisor 21 = .ok (.ifCond .eq 24, 3) := by decide +kernel
theorem dTo_commonDivisor_24 : decode cTo_commonDivisor 24 = .ok (.lload 4, 2) := by decide +kernel
theorem dTo_commonDivisor_26 : decode cTo_commonDivisor 26 = .ok (.lload 6, 2) := by decide +kernel
theorem dTo_commonDivisor_28 : decode cTo_commonDivisor 28 = .ok (.lrem, 1) := by decide +kernel
theorem dTo_commonDivisor_29 : decode cTo_commonDivisor 29 = .ok (.lstore 9, 2) := by decide +kernel
theorem dTo_commonDivisor_31 : decode cTo_commonDivisor 31 = .ok (.lload 6, 2) := by decide +kernel
theorem dTo_commonDivisor_33 : decode cTo_commonDivisor 33 = .ok (.lstore 4, 2) := by decide +kernel
theorem dTo_commonDivisor_35 : decode cTo_commonDivisor 35 = .ok (.lload 9, 2) := by decide +kernel
theorem dTo_commonDivisor_37 : decode cTo_commonDivisor 37 = .ok (.lstore 6, 2) := by decide +kernel
theorem dTo_commonDivisor_39 : decode cTo_commonDivisor 39 = .ok (.iinc 8 1, 3) := by decide +kernel
theorem dTo_commonDivisor_42 : decode cTo_commonDivisor 42 = .ok (.goto (-33), 3) := by decide +kernel
theorem dTo_commonDivisor_45 : decode cTo_commonDivisor 45 = .ok (.lload 4, 2) := by decide +kernel
theorem dTo_commonDivisor_47 : decode cTo_commonDivisor 47 = .ok (.lreturn, 1) := by decide +kernel
end
section
abbrev cMo_init : ByteArray := prog_9_method_1_code
def yMo_init : MethodName := ⟨RMo, "<init>", "()V"⟩
theorem dMo_init_0 : decode cMo_init 0 = .ok (.aload_n 0, 1) := by decide +kernel
theorem dMo_init_1 : decode cMo_init 1 = .ok (.invokespecial 1, 3) := by decide +kernel
theorem dMo_init_4 : decode cMo_init 4 = .ok (.aload_n 0, 1) := by decide +kernel
theorem dMo_init_5 : decode cMo_init 5 = .ok (.bipush 12, 2) := by decide +kernel
theorem dMo_init_7 : decode cMo_init 7 = .ok (.newarray .int, 2) := by decide +kernel
theorem dMo_init_9 : decode cMo_init 9 = .ok (.putfield 7, 3) := by decide +kernel
theorem dMo_init_12 : decode cMo_init 12 = .ok (.aload_n 0, 1) := by decide +kernel
theorem dMo_init_13 : decode cMo_init 13 = .ok (.bipush 12, 2) := by decide +kernel
theorem dMo_init_15 : decode cMo_init 15 = .ok (.newarray .int, 2) := by decide +kernel
theorem dMo_init_17 : decode cMo_init 17 = .ok (.putfield 13, 3) := by decide +kernel
theorem dMo_init_20 : decode cMo_init 20 = .ok (.aload_n 0, 1) := by decide +kernel
theorem dMo_init_21 : decode cMo_init 21 = .ok (.bipush 12, 2) := by decide +kernel
theorem dMo_init_23 : decode cMo_init 23 = .ok (.newarray .int, 2) := by decide +kernel
theorem dMo_init_25 : decode cMo_init 25 = .ok (.putfield 16, 3) := by decide +kernel
theorem dMo_init_28 : decode cMo_init 28 = .ok (.aload_n 0, 1) := by decide +kernel
theorem dMo_init_29 : decode cMo_init 29 = .ok (.bipush 16, 2) := by decide +kernel
theorem dMo_init_31 : decode cMo_init 31 = .ok (.newarray .int, 2) := by decide +kernel
theorem dMo_init_33 : decode cMo_init 33 = .ok (.putfield 19, 3) := by decide +kernel
theorem dMo_init_36 : decode cMo_init 36 = .ok (.aload_n 0, 1) := by decide +kernel
theorem dMo_init_37 : decode cMo_init 37 = .ok (.bipush 16, 2) := by decide +kernel
theorem dMo_init_39 : decode cMo_init 39 = .ok (.newarray .int, 2) := by decide +kernel
theorem dMo_init_41 : decode cMo_init 41 = .ok (.putfield 22, 3) := by decide +kernel
theorem dMo_init_44 : decode cMo_init 44 = .ok (.aload_n 0, 1) := by decide +kernel
theorem dMo_init_45 : decode cMo_init 45 = .ok (.sipush 4096, 3) := by decide +kernel
theorem dMo_init_48 : decode cMo_init 48 = .ok (.newarray .int, 2) := by decide +kernel
theorem dMo_init_50 : decode cMo_init 50 = .ok (.putfield 25, 3) := by decide +kernel
theorem dMo_init_53 : decode cMo_init 53 = .ok (.aload_n 0, 1) := by decide +kernel
theorem dMo_init_54 : decode cMo_init 54 = .ok (.bipush 12, 2) := by decide +kernel
theorem dMo_init_56 : decode cMo_init 56 = .ok (.newarray .int, 2) := by decide +kernel
theorem dMo_init_58 : decode cMo_init 58 = .ok (.putfield 28, 3) := by decide +kernel
theorem dMo_init_61 : decode cMo_init 61 = .ok (.aload_n 0, 1) := by decide +kernel
theorem dMo_init_62 : decode cMo_init 62 = .ok (.bipush 12, 2) := by decide +kernel
theorem dMo_init_64 : decode cMo_init 64 = .ok (.newarray .int, 2) := by decide +kernel
theorem dMo_init_66 : decode cMo_init 66 = .ok (.putfield 31, 3) := by decide +kernel
theorem dMo_init_69 : decode cMo_init 69 = .ok (.aload_n 0, 1) := by decide +kernel
theorem dMo_init_70 : decode cMo_init 70 = .ok (.bipush 12, 2) := by decide +kernel
theorem dMo_init_72 : decode cMo_init 72 = .ok (.newarray .int, 2) := by decide +kernel
theorem dMo_init_74 : decode cMo_init 74 = .ok (.putfield 34, 3) := by decide +kernel
theorem dMo_init_77 : decode cMo_init 77 = .ok (.aload_n 0, 1) := by decide +kernel
theorem dMo_init_78 : decode cMo_init 78 = .ok (.sipush 4096, 3) := by decide +kernel
theorem dMo_init_81 : decode cMo_init 81 = .ok (.newarray .int, 2) := by decide +kernel
theorem dMo_init_83 : decode cMo_init 83 = .ok (.putfield 37, 3) := by decide +kernel
theorem dMo_init_86 : decode cMo_init 86 = .ok (.aload_n 0, 1) := by decide +kernel
theorem dMo_init_87 : decode cMo_init 87 = .ok (.sipush 4096, 3) := by decide +kernel
theorem dMo_init_90 : decode cMo_init 90 = .ok (.newarray .long, 2) := by decide +kernel
theorem dMo_init_92 : decode cMo_init 92 = .ok (.putfield 40, 3) := by decide +kernel
theorem dMo_init_95 : decode cMo_init 95 = .ok (.aload_n 0, 1) := by decide +kernel
theorem dMo_init_96 : decode cMo_init 96 = .ok (.bipush 12, 2) := by decide +kernel
theorem dMo_init_98 : decode cMo_init 98 = .ok (.newarray .int, 2) := by decide +kernel
theorem dMo_init_100 : decode cMo_init 100 = .ok (.putfield 44, 3) := by decide +kernel
theorem dMo_init_103 : decode cMo_init 103 = .ok (.aload_n 0, 1) := by decide +kernel
theorem dMo_init_104 : decode cMo_init 104 = .ok (.bipush 25, 2) := by decide +kernel
theorem dMo_init_106 : decode cMo_init 106 = .ok (.newarray .long, 2) := by decide +kernel
theorem dMo_init_108 : decode cMo_init 108 = .ok (.putfield 47, 3) := by decide +kernel
theorem dMo_init_111 : decode cMo_init 111 = .ok (.aload_n 0, 1) := by decide +kernel
theorem dMo_init_112 : decode cMo_init 112 = .ok (.bipush 25, 2) := by decide +kernel
theorem dMo_init_114 : decode cMo_init 114 = .ok (.newarray .int, 2) := by decide +kernel
theorem dMo_init_116 : decode cMo_init 116 = .ok (.putfield 50, 3) := by decide +kernel
theorem dMo_init_119 : decode cMo_init 119 = .ok (.aload_n 0, 1) := by decide +kernel
theorem dMo_init_120 : decode cMo_init 120 = .ok (.ldc 53, 2) := by decide +kernel
theorem dMo_init_122 : decode cMo_init 122 = .ok (.putfield 54, 3) := by decide +kernel
theorem dMo_init_125 : decode cMo_init 125 = .ok (.aload_n 0, 1) := by decide +kernel
theorem dMo_init_126 : decode cMo_init 126 = .ok (.iconst 1, 1) := by decide +kernel
theorem dMo_init_127 : decode cMo_init 127 = .ok (.putfield 58, 3) := by decide +kernel
theorem dMo_init_130 : decode cMo_init 130 = .ok (.aload_n 0, 1) := by decide +kernel
theorem dMo_init_131 : decode cMo_init 131 = .ok (.iconst 1, 1) := by decide +kernel
theorem dMo_init_132 : decode cMo_init 132 = .ok (.putfield 61, 3) := by decide +kernel
theorem dMo_init_135 : decode cMo_init 135 = .ok (.iconst 0, 1) := by decide +kernel
theorem dMo_init_136 : decode cMo_init 136 = .ok (.istore_n 1, 1) := by decide +kernel
theorem dMo_init_137 : decode cMo_init 137 = .ok (.iload_n 1, 1) := by decide +kernel
theorem dMo_init_138 : decode cMo_init 138 = .ok (.bipush 12, 2) := by decide +kernel
theorem dMo_init_140 : decode cMo_init 140 = .ok (.if_icmp .ge 16, 3) := by decide +kernel
theorem dMo_init_143 : decode cMo_init 143 = .ok (.aload_n 0, 1) := by decide +kernel
theorem dMo_init_144 : decode cMo_init 144 = .ok (.getfield 16, 3) := by decide +kernel
theorem dMo_init_147 : decode cMo_init 147 = .ok (.iload_n 1, 1) := by decide +kernel
theorem dMo_init_148 : decode cMo_init 148 = .ok (.iconst (-1), 1) := by decide +kernel
theorem dMo_init_149 : decode cMo_init 149 = .ok (.iastore, 1) := by decide +kernel
theorem dMo_init_150 : decode cMo_init 150 = .ok (.iinc 1 1, 3) := by decide +kernel
theorem dMo_init_153 : decode cMo_init 153 = .ok (.goto (-16), 3) := by decide +kernel
theorem dMo_init_156 : decode cMo_init 156 = .ok (.return_, 1) := by decide +kernel
abbrev cMo_in : ByteArray := prog_9_method_3_code
def yMo_in : MethodName := ⟨RMo, "in", "(JJJ)Z"⟩
theorem dMo_in_0 : decode cMo_in 0 = .ok (.lload_n 0, 1) := by decide +kernel
theorem dMo_in_1 : decode cMo_in 1 = .ok (.lload_n 2, 1) := by decide +kernel
theorem dMo_in_2 : decode cMo_in 2 = .ok (.lcmp, 1) := by decide +kernel
theorem dMo_in_3 : decode cMo_in 3 = .ok (.ifCond .lt 14, 3) := by decide +kernel
theorem dMo_in_6 : decode cMo_in 6 = .ok (.lload_n 0, 1) := by decide +kernel
theorem dMo_in_7 : decode cMo_in 7 = .ok (.lload 4, 2) := by decide +kernel
theorem dMo_in_9 : decode cMo_in 9 = .ok (.lcmp, 1) := by decide +kernel
theorem dMo_in_10 : decode cMo_in 10 = .ok (.ifCond .gt 7, 3) := by decide +kernel
theorem dMo_in_13 : decode cMo_in 13 = .ok (.iconst 1, 1) := by decide +kernel
theorem dMo_in_14 : decode cMo_in 14 = .ok (.goto 4, 3) := by decide +kernel
theorem dMo_in_17 : decode cMo_in 17 = .ok (.iconst 0, 1) := by decide +kernel
theorem dMo_in_18 : decode cMo_in 18 = .ok (.ireturn, 1) := by decide +kernel
abbrev cMo_isName : ByteArray := prog_9_method_4_code
def yMo_isName : MethodName := ⟨RMo, "isName", "(I)Z"⟩
theorem dMo_isName_0 : decode cMo_isName 0 = .ok (.iload_n 1, 1) := by decide +kernel
theorem dMo_isName_1 : decode cMo_isName 1 = .ok (.i2l, 1) := by decide +kernel
theorem dMo_isName_2 : decode cMo_isName 2 = .ok (.lconst 0, 1) := by decide +kernel
theorem dMo_isName_3 : decode cMo_isName 3 = .ok (.aload_n 0, 1) := by decide +kernel
theorem dMo_isName_4 : decode cMo_isName 4 = .ok (.getfield 68, 3) := by decide +kernel
theorem dMo_isName_7 : decode cMo_isName 7 = .ok (.iconst 1, 1) := by decide +kernel
theorem dMo_isName_8 : decode cMo_isName 8 = .ok (.isub, 1) := by decide +kernel
theorem dMo_isName_9 : decode cMo_isName 9 = .ok (.i2l, 1) := by decide +kernel
theorem dMo_isName_10 : decode cMo_isName 10 = .ok (.invokestatic 71, 3) := by decide +kernel
theorem dMo_isName_13 : decode cMo_isName 13 = .ok (.ireturn, 1) := by decide +kernel
abbrev cMo_isSet : ByteArray := prog_9_method_5_code
def yMo_isSet : MethodName := ⟨RMo, "isSet", "(I)Z"⟩
theorem dMo_isSet_0 : decode cMo_isSet 0 = .ok (.iload_n 1, 1) := by decide +kernel
theorem dMo_isSet_1 : decode cMo_isSet 1 = .ok (.ifCond .lt 17, 3) := by decide +kernel
theorem dMo_isSet_4 : decode cMo_isSet 4 = .ok (.iload_n 1, 1) := by decide +kernel
theorem dMo_isSet_5 : decode cMo_isSet 5 = .ok (.iconst 1, 1) := by decide +kernel
theorem dMo_isSet_6 : decode cMo_isSet 6 = .ok (.aload_n 0, 1) := by decide +kernel
theorem dMo_isSet_7 : decode cMo_isSet 7 = .ok (.getfield 68, 3) := by decide +kernel
theorem dMo_isSet_10 : decode cMo_isSet 10 = .ok (.ishl, 1) := by decide +kernel
theorem dMo_isSet_11 : decode cMo_isSet 11 = .ok (.if_icmp .ge 7, 3) := by decide +kernel
theorem dMo_isSet_14 : decode cMo_isSet 14 = .ok (.iconst 1, 1) := by decide +kernel
theorem dMo_isSet_15 : decode cMo_isSet 15 = .ok (.goto 4, 3) := by decide +kernel
theorem dMo_isSet_18 : decode cMo_isSet 18 = .ok (.iconst 0, 1) := by decide +kernel
theorem dMo_isSet_19 : decode cMo_isSet 19 = .ok (.ireturn, 1) := by decide +kernel
abbrev cMo_many : ByteArray := prog_9_method_6_code
def yMo_many : MethodName := ⟨RMo, "many", "(I)I"⟩
theorem dMo_many_0 : decode cMo_many 0 = .ok (.iconst 0, 1) := by decide +kernel
theorem dMo_many_1 : decode cMo_many 1 = .ok (.istore_n 1, 1) := by decide +kernel
theorem dMo_many_2 : decode cMo_many 2 = .ok (.iconst 0, 1) := by decide +kernel
theorem dMo_many_3 : decode cMo_many 3 = .ok (.istore_n 2, 1) := by decide +kernel
theorem dMo_many_4 : decode cMo_many 4 = .ok (.iload_n 2, 1) := by decide +kernel
theorem dMo_many_5 : decode cMo_many 5 = .ok (.bipush 12, 2) := by decide +kernel
theorem dMo_many_7 : decode cMo_many 7 = .ok (.if_icmp .ge 17, 3) := by decide +kernel
theorem dMo_many_10 : decode cMo_many 10 = .ok (.iload_n 1, 1) := by decide +kernel
theorem dMo_many_11 : decode cMo_many 11 = .ok (.iload_n 0, 1) := by decide +kernel
theorem dMo_many_12 : decode cMo_many 12 = .ok (.iload_n 2, 1) := by decide +kernel
theorem dMo_many_13 : decode cMo_many 13 = .ok (.ishr, 1) := by decide +kernel
theorem dMo_many_14 : decode cMo_many 14 = .ok (.iconst 1, 1) := by decide +kernel
theorem dMo_many_15 : decode cMo_many 15 = .ok (.iand, 1) := by decide +kernel
theorem dMo_many_16 : decode cMo_many 16 = .ok (.iadd, 1) := by decide +kernel
theorem dMo_many_17 : decode cMo_many 17 = .ok (.istore_n 1, 1) := by decide +kernel
theorem dMo_many_18 : decode cMo_many 18 = .ok (.iinc 2 1, 3) := by decide +kernel
theorem dMo_many_21 : decode cMo_many 21 = .ok (.goto (-17), 3) := by decide +kernel
theorem dMo_many_24 : decode cMo_many 24 = .ok (.iload_n 1, 1) := by decide +kernel
theorem dMo_many_25 : decode cMo_many 25 = .ok (.ireturn, 1) := by decide +kernel
abbrev cMo_cells : ByteArray := prog_9_method_7_code
def yMo_cells : MethodName := ⟨RMo, "cells", "(I)I"⟩
theorem dMo_cells_0 : decode cMo_cells 0 = .ok (.iconst 1, 1) := by decide +kernel
theorem dMo_cells_1 : decode cMo_cells 1 = .ok (.istore_n 2, 1) := by decide +kernel
theorem dMo_cells_2 : decode cMo_cells 2 = .ok (.iconst 0, 1) := by decide +kernel
theorem dMo_cells_3 : decode cMo_cells 3 = .ok (.istore_n 3, 1) := by decide +kernel
theorem dMo_cells_4 : decode cMo_cells 4 = .ok (.iload_n 3, 1) := by decide +kernel
theorem dMo_cells_5 : decode cMo_cells 5 = .ok (.aload_n 0, 1) := by decide +kernel
theorem dMo_cells_6 : decode cMo_cells 6 = .ok (.getfield 68, 3) := by decide +kernel
theorem dMo_cells_9 : decode cMo_cells 9 = .ok (.if_icmp .ge 31, 3) := by decide +kernel
theorem dMo_cells_12 : decode cMo_cells 12 = .ok (.iload_n 1, 1) := by decide +kernel
theorem dMo_cells_13 : decode cMo_cells 13 = .ok (.iload_n 3, 1) := by decide +kernel
theorem dMo_cells_14 : decode cMo_cells 14 = .ok (.ishr, 1) := by decide +kernel
theorem dMo_cells_15 : decode cMo_cells 15 = .ok (.iconst 1, 1) := by decide +kernel
theorem dMo_cells_16 : decode cMo_cells 16 = .ok (.iand, 1) := by decide +kernel
theorem dMo_cells_17 : decode cMo_cells 17 = .ok (.iconst 1, 1) := by decide +kernel
theorem dMo_cells_18 : decode cMo_cells 18 = .ok (.if_icmp .ne 14, 3) := by decide +kernel
theorem dMo_cells_21 : decode cMo_cells 21 = .ok (.iload_n 2, 1) := by decide +kernel
theorem dMo_cells_22 : decode cMo_cells 22 = .ok (.aload_n 0, 1) := by decide +kernel
theorem dMo_cells_23 : decode cMo_cells 23 = .ok (.getfield 7, 3) := by decide +kernel
theorem dMo_cells_26 : decode cMo_cells 26 = .ok (.iload_n 3, 1) := by decide +kernel
theorem dMo_cells_27 : decode cMo_cells 27 = .ok (.iaload, 1) := by decide +kernel
theorem dMo_cells_28 : decode cMo_cells 28 = .ok (.imul, 1) := by decide +kernel
theorem dMo_cells_29 : decode cMo_cells 29 = .ok (.goto 4, 3) := by decide +kernel
theorem dMo_cells_32 : decode cMo_cells 32 = .ok (.iload_n 2, 1) := by decide +kernel
theorem dMo_cells_33 : decode cMo_cells 33 = .ok (.istore_n 2, 1) := by decide +kernel
theorem dMo_cells_34 : decode cMo_cells 34 = .ok (.iinc 3 1, 3) := by decide +kernel
theorem dMo_cells_37 : decode cMo_cells 37 = .ok (.goto (-33), 3) := by decide +kernel
theorem dMo_cells_40 : decode cMo_cells 40 = .ok (.iload_n 2, 1) := by decide +kernel
theorem dMo_cells_41 : decode cMo_cells 41 = .ok (.ireturn, 1) := by decide +kernel
abbrev cMo_name : ByteArray := prog_9_method_8_code
def yMo_name : MethodName := ⟨RMo, "name", "(I)I"⟩
theorem dMo_name_0 : decode cMo_name 0 = .ok (.aload_n 0, 1) := by decide +kernel
theorem dMo_name_1 : decode cMo_name 1 = .ok (.iconst 0, 1) := by decide +kernel
theorem dMo_name_2 : decode cMo_name 2 = .ok (.putfield 65, 3) := by decide +kernel
theorem dMo_name_5 : decode cMo_name 5 = .ok (.iload_n 1, 1) := by decide +kernel
theorem dMo_name_6 : decode cMo_name 6 = .ok (.i2l, 1) := by decide +kernel
theorem dMo_name_7 : decode cMo_name 7 = .ok (.ldc2_w 75, 3) := by decide +kernel
theorem dMo_name_10 : decode cMo_name 10 = .ok (.ldc2_w 77, 3) := by decide +kernel
theorem dMo_name_13 : decode cMo_name 13 = .ok (.invokestatic 71, 3) := by decide +kernel
theorem dMo_name_16 : decode cMo_name 16 = .ok (.ifCond .ne 6, 3) := by decide +kernel
theorem dMo_name_19 : decode cMo_name 19 = .ok (.bipush (-2), 2) := by decide +kernel
theorem dMo_name_21 : decode cMo_name 21 = .ok (.ireturn, 1) := by decide +kernel
theorem dMo_name_22 : decode cMo_name 22 = .ok (.aload_n 0, 1) := by decide +kernel
theorem dMo_name_23 : decode cMo_name 23 = .ok (.getfield 68, 3) := by decide +kernel
theorem dMo_name_26 : decode cMo_name 26 = .ok (.bipush 12, 2) := by decide +kernel
theorem dMo_name_28 : decode cMo_name 28 = .ok (.if_icmp .eq 14, 3) := by decide +kernel
theorem dMo_name_31 : decode cMo_name 31 = .ok (.aload_n 0, 1) := by decide +kernel
theorem dMo_name_32 : decode cMo_name 32 = .ok (.getfield 58, 3) := by decide +kernel
theorem dMo_name_35 : decode cMo_name 35 = .ok (.iload_n 1, 1) := by decide +kernel
theorem dMo_name_36 : decode cMo_name 36 = .ok (.imul, 1) := by decide +kernel
theorem dMo_name_37 : decode cMo_name 37 = .ok (.ldc 53, 2) := by decide +kernel
theorem dMo_name_39 : decode cMo_name 39 = .ok (.if_icmp .le 6, 3) := by decide +kernel
theorem dMo_name_42 : decode cMo_name 42 = .ok (.bipush (-4), 2) := by decide +kernel
theorem dMo_name_44 : decode cMo_name 44 = .ok (.ireturn, 1) := by decide +kernel
theorem dMo_name_45 : decode cMo_name 45 = .ok (.aload_n 0, 1) := by decide +kernel
theorem dMo_name_46 : decode cMo_name 46 = .ok (.getfield 7, 3) := by decide +kernel
theorem dMo_name_49 : decode cMo_name 49 = .ok (.aload_n 0, 1) := by decide +kernel
theorem dMo_name_50 : decode cMo_name 50 = .ok (.getfield 68, 3) := by decide +kernel
theorem dMo_name_53 : decode cMo_name 53 = .ok (.iload_n 1, 1) := by decide +kernel
theorem dMo_name_54 : decode cMo_name 54 = .ok (.iastore, 1) := by decide +kernel
theorem dMo_name_55 : decode cMo_name 55 = .ok (.aload_n 0, 1) := by decide +kernel
theorem dMo_name_56 : decode cMo_name 56 = .ok (.getfield 13, 3) := by decide +kernel
theorem dMo_name_59 : decode cMo_name 59 = .ok (.aload_n 0, 1) := by decide +kernel
theorem dMo_name_60 : decode cMo_name 60 = .ok (.getfield 68, 3) := by decide +kernel
theorem dMo_name_63 : decode cMo_name 63 = .ok (.iconst (-1), 1) := by decide +kernel
theorem dMo_name_64 : decode cMo_name 64 = .ok (.iastore, 1) := by decide +kernel
theorem dMo_name_65 : decode cMo_name 65 = .ok (.aload_n 0, 1) := by decide +kernel
theorem dMo_name_66 : decode cMo_name 66 = .ok (.aload_n 0, 1) := by decide +kernel
theorem dMo_name_67 : decode cMo_name 67 = .ok (.getfield 58, 3) := by decide +kernel
theorem dMo_name_70 : decode cMo_name 70 = .ok (.iload_n 1, 1) := by decide +kernel
theorem dMo_name_71 : decode cMo_name 71 = .ok (.imul, 1) := by decide +kernel
theorem dMo_name_72 : decode cMo_name 72 = .ok (.putfield 58, 3) := by decide +kernel
theorem dMo_name_75 : decode cMo_name 75 = .ok (.aload_n 0, 1) := by decide +kernel
theorem dMo_name_76 : decode cMo_name 76 = .ok (.dup, 1) := by decide +kernel
theorem dMo_name_77 : decode cMo_name 77 = .ok (.getfield 68, 3) := by decide +kernel
theorem dMo_name_80 : decode cMo_name 80 = .ok (.iconst 1, 1) := by decide +kernel
theorem dMo_name_81 : decode cMo_name 81 = .ok (.iadd, 1) := by decide +kernel
theorem dMo_name_82 : decode cMo_name 82 = .ok (.putfield 68, 3) := by decide +kernel
theorem dMo_name_85 : decode cMo_name 85 = .ok (.aload_n 0, 1) := by decide +kernel
theorem dMo_name_86 : decode cMo_name 86 = .ok (.iconst 1, 1) := by decide +kernel
theorem dMo_name_87 : decode cMo_name 87 = .ok (.putfield 61, 3) := by decide +kernel
theorem dMo_name_90 : decode cMo_name 90 = .ok (.aload_n 0, 1) := by decide +kernel
theorem dMo_name_91 : decode cMo_name 91 = .ok (.getfield 68, 3) := by decide +kernel
theorem dMo_name_94 : decode cMo_name 94 = .ok (.iconst 1, 1) := by decide +kernel
theorem dMo_name_95 : decode cMo_name 95 = .ok (.isub, 1) := by decide +kernel
theorem dMo_name_96 : decode cMo_name 96 = .ok (.ireturn, 1) := by decide +kernel
abbrev cMo_allCopies : ByteArray := prog_9_method_9_code
def yMo_allCopies : MethodName := ⟨RMo, "allCopies", "()I"⟩
theorem dMo_allCopies_0 : decode cMo_allCopies 0 = .ok (.iconst 0, 1) := by decide +kernel
theorem dMo_allCopies_1 : decode cMo_allCopies 1 = .ok (.istore_n 1, 1) := by decide +kernel
theorem dMo_allCopies_2 : decode cMo_allCopies 2 = .ok (.iconst 0, 1) := by decide +kernel
theorem dMo_allCopies_3 : decode cMo_allCopies 3 = .ok (.istore_n 2, 1) := by decide +kernel
theorem dMo_allCopies_4 : decode cMo_allCopies 4 = .ok (.iload_n 2, 1) := by decide +kernel
theorem dMo_allCopies_5 : decode cMo_allCopies 5 = .ok (.aload_n 0, 1) := by decide +kernel
theorem dMo_allCopies_6 : decode cMo_allCopies 6 = .ok (.getfield 79, 3) := by decide +kernel
theorem dMo_allCopies_9 : decode cMo_allCopies 9 = .ok (.if_icmp .ge 18, 3) := by decide +kernel
theorem dMo_allCopies_12 : decode cMo_allCopies 12 = .ok (.iload_n 1, 1) := by decide +kernel
theorem dMo_allCopies_13 : decode cMo_allCopies 13 = .ok (.aload_n 0, 1) := by decide +kernel
theorem dMo_allCopies_14 : decode cMo_allCopies 14 = .ok (.getfield 22, 3) := by decide +kernel
theorem dMo_allCopies_17 : decode cMo_allCopies 17 = .ok (.iload_n 2, 1) := by decide +kernel
theorem dMo_allCopies_18 : decode cMo_allCopies 18 = .ok (.iaload, 1) := by decide +kernel
theorem dMo_allCopies_19 : decode cMo_allCopies 19 = .ok (.iadd, 1) := by decide +kernel
theorem dMo_allCopies_20 : decode cMo_allCopies 20 = .ok (.istore_n 1, 1) := by decide +kernel
theorem dMo_allCopies_21 : decode cMo_allCopies 21 = .ok (.iinc 2 1, 3) := by decide +kernel
theorem dMo_allCopies_24 : decode cMo_allCopies 24 = .ok (.goto (-20), 3) := by decide +kernel
theorem dMo_allCopies_27 : decode cMo_allCopies 27 = .ok (.iload_n 1, 1) := by decide +kernel
theorem dMo_allCopies_28 : decode cMo_allCopies 28 = .ok (.ireturn, 1) := by decide +kernel
abbrev cMo_factor : ByteArray := prog_9_method_10_code
def yMo_factor : MethodName := ⟨RMo, "factor", "(I)I"⟩
theorem dMo_factor_0 : decode cMo_factor 0 = .ok (.aload_n 0, 1) := by decide +kernel
theorem dMo_factor_1 : decode cMo_factor 1 = .ok (.iconst 0, 1) := by decide +kernel
theorem dMo_factor_2 : decode cMo_factor 2 = .ok (.putfield 65, 3) := by decide +kernel
theorem dMo_factor_5 : decode cMo_factor 5 = .ok (.aload_n 0, 1) := by decide +kernel
theorem dMo_factor_6 : decode cMo_factor 6 = .ok (.iload_n 1, 1) := by decide +kernel
theorem dMo_factor_7 : decode cMo_factor 7 = .ok (.invokevirtual 82, 3) := by decide +kernel
theorem dMo_factor_10 : decode cMo_factor 10 = .ok (.ifCond .ne 5, 3) := by decide +kernel
theorem dMo_factor_13 : decode cMo_factor 13 = .ok (.iconst (-1), 1) := by decide +kernel
theorem dMo_factor_14 : decode cMo_factor 14 = .ok (.ireturn, 1) := by decide +kernel
theorem dMo_factor_15 : decode cMo_factor 15 = .ok (.iload_n 1, 1) := by decide +kernel
theorem dMo_factor_16 : decode cMo_factor 16 = .ok (.invokestatic 86, 3) := by decide +kernel
theorem dMo_factor_19 : decode cMo_factor 19 = .ok (.iconst 4, 1) := by decide +kernel
theorem dMo_factor_20 : decode cMo_factor 20 = .ok (.if_icmp .le 6, 3) := by decide +kernel
theorem dMo_factor_23 : decode cMo_factor 23 = .ok (.bipush (-2), 2) := by decide +kernel
theorem dMo_factor_25 : decode cMo_factor 25 = .ok (.ireturn, 1) := by decide +kernel
theorem dMo_factor_26 : decode cMo_factor 26 = .ok (.aload_n 0, 1) := by decide +kernel
theorem dMo_factor_27 : decode cMo_factor 27 = .ok (.getfield 79, 3) := by decide +kernel
theorem dMo_factor_30 : decode cMo_factor 30 = .ok (.bipush 16, 2) := by decide +kernel
theorem dMo_factor_32 : decode cMo_factor 32 = .ok (.if_icmp .eq 12, 3) := by decide +kernel
theorem dMo_factor_35 : decode cMo_factor 35 = .ok (.aload_n 0, 1) := by decide +kernel
theorem dMo_factor_36 : decode cMo_factor 36 = .ok (.invokevirtual 90, 3) := by decide +kernel
theorem dMo_factor_39 : decode cMo_factor 39 = .ok (.bipush 16, 2) := by decide +kernel
theorem dMo_factor_41 : decode cMo_factor 41 = .ok (.if_icmp .ne 6, 3) := by decide +kernel
theorem dMo_factor_44 : decode cMo_factor 44 = .ok (.bipush (-4), 2) := by decide +kernel
theorem dMo_factor_46 : decode cMo_factor 46 = .ok (.ireturn, 1) := by decide +kernel
theorem dMo_factor_47 : decode cMo_factor 47 = .ok (.aload_n 0, 1) := by decide +kernel
theorem dMo_factor_48 : decode cMo_factor 48 = .ok (.getfield 19, 3) := by decide +kernel
theorem dMo_factor_51 : decode cMo_factor 51 = .ok (.aload_n 0, 1) := by decide +kernel
theorem dMo_factor_52 : decode cMo_factor 52 = .ok (.getfield 79, 3) := by decide +kernel
theorem dMo_factor_55 : decode cMo_factor 55 = .ok (.iload_n 1, 1) := by decide +kernel
theorem dMo_factor_56 : decode cMo_factor 56 = .ok (.iastore, 1) := by decide +kernel
theorem dMo_factor_57 : decode cMo_factor 57 = .ok (.aload_n 0, 1) := by decide +kernel
theorem dMo_factor_58 : decode cMo_factor 58 = .ok (.getfield 22, 3) := by decide +kernel
theorem dMo_factor_61 : decode cMo_factor 61 = .ok (.aload_n 0, 1) := by decide +kernel
theorem dMo_factor_62 : decode cMo_factor 62 = .ok (.getfield 79, 3) := by decide +kernel
theorem dMo_factor_65 : decode cMo_factor 65 = .ok (.iconst 1, 1) := by decide +kernel
theorem dMo_factor_66 : decode cMo_factor 66 = .ok (.iastore, 1) := by decide +kernel
theorem dMo_factor_67 : decode cMo_factor 67 = .ok (.iconst 0, 1) := by decide +kernel
theorem dMo_factor_68 : decode cMo_factor 68 = .ok (.istore_n 2, 1) := by decide +kernel
theorem dMo_factor_69 : decode cMo_factor 69 = .ok (.iload_n 2, 1) := by decide +kernel
theorem dMo_factor_70 : decode cMo_factor 70 = .ok (.sipush 256, 3) := by decide +kernel
theorem dMo_factor_73 : decode cMo_factor 73 = .ok (.if_icmp .ge 25, 3) := by decide +kernel
theorem dMo_factor_76 : decode cMo_factor 76 = .ok (.aload_n 0, 1) := by decide +kernel
theorem dMo_factor_77 : decode cMo_factor 77 = .ok (.getfield 25, 3) := by decide +kernel
theorem dMo_factor_80 : decode cMo_factor 80 = .ok (.sipush 256, 3) := by decide +kernel
theorem dMo_factor_83 : decode cMo_factor 83 = .ok (.aload_n 0, 1) := by decide +kernel
theorem dMo_factor_84 : decode cMo_factor 84 = .ok (.getfield 79, 3) := by decide +kernel
theorem dMo_factor_87 : decode cMo_factor 87 = .ok (.imul, 1) := by decide +kernel
theorem dMo_factor_88 : decode cMo_factor 88 = .ok (.iload_n 2, 1) := by decide +kernel
theorem dMo_factor_89 : decode cMo_factor 89 = .ok (.iadd, 1) := by decide +kernel
theorem dMo_factor_90 : decode cMo_factor 90 = .ok (.iconst 1, 1) := by decide +kernel
theorem dMo_factor_91 : decode cMo_factor 91 = .ok (.iastore, 1) := by decide +kernel
theorem dMo_factor_92 : decode cMo_factor 92 = .ok (.iinc 2 1, 3) := by decide +kernel
theorem dMo_factor_95 : decode cMo_factor 95 = .ok (.goto (-26), 3) := by decide +kernel
theorem dMo_factor_98 : decode cMo_factor 98 = .ok (.aload_n 0, 1) := by decide +kernel
theorem dMo_factor_99 : decode cMo_factor 99 = .ok (.dup, 1) := by decide +kernel
theorem dMo_factor_100 : decode cMo_factor 100 = .ok (.getfield 79, 3) := by decide +kernel
theorem dMo_factor_103 : decode cMo_factor 103 = .ok (.iconst 1, 1) := by decide +kernel
theorem dMo_factor_104 : decode cMo_factor 104 = .ok (.iadd, 1) := by decide +kernel
theorem dMo_factor_105 : decode cMo_factor 105 = .ok (.putfield 79, 3) := by decide +kernel
theorem dMo_factor_108 : decode cMo_factor 108 = .ok (.aload_n 0, 1) := by decide +kernel
theorem dMo_factor_109 : decode cMo_factor 109 = .ok (.iconst 1, 1) := by decide +kernel
theorem dMo_factor_110 : decode cMo_factor 110 = .ok (.putfield 61, 3) := by decide +kernel
theorem dMo_factor_113 : decode cMo_factor 113 = .ok (.aload_n 0, 1) := by decide +kernel
theorem dMo_factor_114 : decode cMo_factor 114 = .ok (.getfield 79, 3) := by decide +kernel
theorem dMo_factor_117 : decode cMo_factor 117 = .ok (.iconst 1, 1) := by decide +kernel
theorem dMo_factor_118 : decode cMo_factor 118 = .ok (.isub, 1) := by decide +kernel
theorem dMo_factor_119 : decode cMo_factor 119 = .ok (.ireturn, 1) := by decide +kernel
abbrev cMo_isFactor : ByteArray := prog_9_method_11_code
def yMo_isFactor : MethodName := ⟨RMo, "isFactor", "(I)Z"⟩
theorem dMo_isFactor_0 : decode cMo_isFactor 0 = .ok (.iload_n 1, 1) := by decide +kernel
theorem dMo_isFactor_1 : decode cMo_isFactor 1 = .ok (.i2l, 1) := by decide +kernel
theorem dMo_isFactor_2 : decode cMo_isFactor 2 = .ok (.lconst 0, 1) := by decide +kernel
theorem dMo_isFactor_3 : decode cMo_isFactor 3 = .ok (.aload_n 0, 1) := by decide +kernel
theorem dMo_isFactor_4 : decode cMo_isFactor 4 = .ok (.getfield 79, 3) := by decide +kernel
theorem dMo_isFactor_7 : decode cMo_isFactor 7 = .ok (.iconst 1, 1) := by decide +kernel
theorem dMo_isFactor_8 : decode cMo_isFactor 8 = .ok (.isub, 1) := by decide +kernel
theorem dMo_isFactor_9 : decode cMo_isFactor 9 = .ok (.i2l, 1) := by decide +kernel
theorem dMo_isFactor_10 : decode cMo_isFactor 10 = .ok (.invokestatic 71, 3) := by decide +kernel
theorem dMo_isFactor_13 : decode cMo_isFactor 13 = .ok (.ireturn, 1) := by decide +kernel
abbrev cMo_put : ByteArray := prog_9_method_12_code
def yMo_put : MethodName := ⟨RMo, "put", "(III)I"⟩
theorem dMo_put_0 : decode cMo_put 0 = .ok (.aload_n 0, 1) := by decide +kernel
theorem dMo_put_1 : decode cMo_put 1 = .ok (.iconst 0, 1) := by decide +kernel
theorem dMo_put_2 : decode cMo_put 2 = .ok (.putfield 65, 3) := by decide +kernel
theorem dMo_put_5 : decode cMo_put 5 = .ok (.aload_n 0, 1) := by decide +kernel
theorem dMo_put_6 : decode cMo_put 6 = .ok (.iload_n 1, 1) := by decide +kernel
theorem dMo_put_7 : decode cMo_put 7 = .ok (.invokevirtual 94, 3) := by decide +kernel
theorem dMo_put_10 : decode cMo_put 10 = .ok (.ifCond .ne 5, 3) := by decide +kernel
theorem dMo_put_13 : decode cMo_put 13 = .ok (.iconst (-1), 1) := by decide +kernel
theorem dMo_put_14 : decode cMo_put 14 = .ok (.ireturn, 1) := by decide +kernel
theorem dMo_put_15 : decode cMo_put 15 = .ok (.iload_n 2, 1) := by decide +kernel
theorem dMo_put_16 : decode cMo_put 16 = .ok (.i2l, 1) := by decide +kernel
theorem dMo_put_17 : decode cMo_put 17 = .ok (.lconst 0, 1) := by decide +kernel
theorem dMo_put_18 : decode cMo_put 18 = .ok (.aload_n 0, 1) := by decide +kernel
theorem dMo_put_19 : decode cMo_put 19 = .ok (.aload_n 0, 1) := by decide +kernel
theorem dMo_put_20 : decode cMo_put 20 = .ok (.getfield 19, 3) := by decide +kernel
theorem dMo_put_23 : decode cMo_put 23 = .ok (.iload_n 1, 1) := by decide +kernel
theorem dMo_put_24 : decode cMo_put 24 = .ok (.iaload, 1) := by decide +kernel
theorem dMo_put_25 : decode cMo_put 25 = .ok (.invokevirtual 97, 3) := by decide +kernel
theorem dMo_put_28 : decode cMo_put 28 = .ok (.iconst 1, 1) := by decide +kernel
theorem dMo_put_29 : decode cMo_put 29 = .ok (.isub, 1) := by decide +kernel
theorem dMo_put_30 : decode cMo_put 30 = .ok (.i2l, 1) := by decide +kernel
theorem dMo_put_31 : decode cMo_put 31 = .ok (.invokestatic 71, 3) := by decide +kernel
theorem dMo_put_34 : decode cMo_put 34 = .ok (.ifCond .eq 15, 3) := by decide +kernel
theorem dMo_put_37 : decode cMo_put 37 = .ok (.iload_n 3, 1) := by decide +kernel
theorem dMo_put_38 : decode cMo_put 38 = .ok (.i2l, 1) := by decide +kernel
theorem dMo_put_39 : decode cMo_put 39 = .ok (.lconst 0, 1) := by decide +kernel
theorem dMo_put_40 : decode cMo_put 40 = .ok (.ldc2_w 100, 3) := by decide +kernel
theorem dMo_put_43 : decode cMo_put 43 = .ok (.invokestatic 71, 3) := by decide +kernel
theorem dMo_put_46 : decode cMo_put 46 = .ok (.ifCond .ne 6, 3) := by decide +kernel
theorem dMo_put_49 : decode cMo_put 49 = .ok (.bipush (-2), 2) := by decide +kernel
theorem dMo_put_51 : decode cMo_put 51 = .ok (.ireturn, 1) := by decide +kernel
theorem dMo_put_52 : decode cMo_put 52 = .ok (.aload_n 0, 1) := by decide +kernel
theorem dMo_put_53 : decode cMo_put 53 = .ok (.getfield 25, 3) := by decide +kernel
theorem dMo_put_56 : decode cMo_put 56 = .ok (.sipush 256, 3) := by decide +kernel
theorem dMo_put_59 : decode cMo_put 59 = .ok (.iload_n 1, 1) := by decide +kernel
theorem dMo_put_60 : decode cMo_put 60 = .ok (.imul, 1) := by decide +kernel
theorem dMo_put_61 : decode cMo_put 61 = .ok (.iload_n 2, 1) := by decide +kernel
theorem dMo_put_62 : decode cMo_put 62 = .ok (.iadd, 1) := by decide +kernel
theorem dMo_put_63 : decode cMo_put 63 = .ok (.iaload, 1) := by decide +kernel
theorem dMo_put_64 : decode cMo_put 64 = .ok (.istore 4, 2) := by decide +kernel
theorem dMo_put_66 : decode cMo_put 66 = .ok (.aload_n 0, 1) := by decide +kernel
theorem dMo_put_67 : decode cMo_put 67 = .ok (.getfield 25, 3) := by decide +kernel
theorem dMo_put_70 : decode cMo_put 70 = .ok (.sipush 256, 3) := by decide +kernel
theorem dMo_put_73 : decode cMo_put 73 = .ok (.iload_n 1, 1) := by decide +kernel
theorem dMo_put_74 : decode cMo_put 74 = .ok (.imul, 1) := by decide +kernel
theorem dMo_put_75 : decode cMo_put 75 = .ok (.iload_n 2, 1) := by decide +kernel
theorem dMo_put_76 : decode cMo_put 76 = .ok (.iadd, 1) := by decide +kernel
theorem dMo_put_77 : decode cMo_put 77 = .ok (.iload_n 3, 1) := by decide +kernel
theorem dMo_put_78 : decode cMo_put 78 = .ok (.iastore, 1) := by decide +kernel
theorem dMo_put_79 : decode cMo_put 79 = .ok (.iload 4, 2) := by decide +kernel
theorem dMo_put_81 : decode cMo_put 81 = .ok (.ireturn, 1) := by decide +kernel
abbrev cMo_copies : ByteArray := prog_9_method_13_code
def yMo_copies : MethodName := ⟨RMo, "copies", "(II)I"⟩
theorem dMo_copies_0 : decode cMo_copies 0 = .ok (.aload_n 0, 1) := by decide +kernel
theorem dMo_copies_1 : decode cMo_copies 1 = .ok (.iconst 0, 1) := by decide +kernel
theorem dMo_copies_2 : decode cMo_copies 2 = .ok (.putfield 65, 3) := by decide +kernel
theorem dMo_copies_5 : decode cMo_copies 5 = .ok (.aload_n 0, 1) := by decide +kernel
theorem dMo_copies_6 : decode cMo_copies 6 = .ok (.iload_n 1, 1) := by decide +kernel
theorem dMo_copies_7 : decode cMo_copies 7 = .ok (.invokevirtual 94, 3) := by decide +kernel
theorem dMo_copies_10 : decode cMo_copies 10 = .ok (.ifCond .ne 5, 3) := by decide +kernel
theorem dMo_copies_13 : decode cMo_copies 13 = .ok (.iconst (-1), 1) := by decide +kernel
theorem dMo_copies_14 : decode cMo_copies 14 = .ok (.ireturn, 1) := by decide +kernel
theorem dMo_copies_15 : decode cMo_copies 15 = .ok (.iload_n 2, 1) := by decide +kernel
theorem dMo_copies_16 : decode cMo_copies 16 = .ok (.i2l, 1) := by decide +kernel
theorem dMo_copies_17 : decode cMo_copies 17 = .ok (.lconst 1, 1) := by decide +kernel
theorem dMo_copies_18 : decode cMo_copies 18 = .ok (.ldc2_w 102, 3) := by decide +kernel
theorem dMo_copies_21 : decode cMo_copies 21 = .ok (.invokestatic 71, 3) := by decide +kernel
theorem dMo_copies_24 : decode cMo_copies 24 = .ok (.ifCond .ne 6, 3) := by decide +kernel
theorem dMo_copies_27 : decode cMo_copies 27 = .ok (.bipush (-2), 2) := by decide +kernel
theorem dMo_copies_29 : decode cMo_copies 29 = .ok (.ireturn, 1) := by decide +kernel
theorem dMo_copies_30 : decode cMo_copies 30 = .ok (.aload_n 0, 1) := by decide +kernel
theorem dMo_copies_31 : decode cMo_copies 31 = .ok (.invokevirtual 90, 3) := by decide +kernel
theorem dMo_copies_34 : decode cMo_copies 34 = .ok (.aload_n 0, 1) := by decide +kernel
theorem dMo_copies_35 : decode cMo_copies 35 = .ok (.getfield 22, 3) := by decide +kernel
theorem dMo_copies_38 : decode cMo_copies 38 = .ok (.iload_n 1, 1) := by decide +kernel
theorem dMo_copies_39 : decode cMo_copies 39 = .ok (.iaload, 1) := by decide +kernel
theorem dMo_copies_40 : decode cMo_copies 40 = .ok (.isub, 1) := by decide +kernel
theorem dMo_copies_41 : decode cMo_copies 41 = .ok (.iload_n 2, 1) := by decide +kernel
theorem dMo_copies_42 : decode cMo_copies 42 = .ok (.iadd, 1) := by decide +kernel
theorem dMo_copies_43 : decode cMo_copies 43 = .ok (.bipush 16, 2) := by decide +kernel
theorem dMo_copies_45 : decode cMo_copies 45 = .ok (.if_icmp .le 6, 3) := by decide +kernel
theorem dMo_copies_48 : decode cMo_copies 48 = .ok (.bipush (-4), 2) := by decide +kernel
theorem dMo_copies_50 : decode cMo_copies 50 = .ok (.ireturn, 1) := by decide +kernel
theorem dMo_copies_51 : decode cMo_copies 51 = .ok (.aload_n 0, 1) := by decide +kernel
theorem dMo_copies_52 : decode cMo_copies 52 = .ok (.getfield 22, 3) := by decide +kernel
theorem dMo_copies_55 : decode cMo_copies 55 = .ok (.iload_n 1, 1) := by decide +kernel
theorem dMo_copies_56 : decode cMo_copies 56 = .ok (.iaload, 1) := by decide +kernel
theorem dMo_copies_57 : decode cMo_copies 57 = .ok (.istore_n 3, 1) := by decide +kernel
theorem dMo_copies_58 : decode cMo_copies 58 = .ok (.aload_n 0, 1) := by decide +kernel
theorem dMo_copies_59 : decode cMo_copies 59 = .ok (.getfield 22, 3) := by decide +kernel
theorem dMo_copies_62 : decode cMo_copies 62 = .ok (.iload_n 1, 1) := by decide +kernel
theorem dMo_copies_63 : decode cMo_copies 63 = .ok (.iload_n 2, 1) := by decide +kernel
theorem dMo_copies_64 : decode cMo_copies 64 = .ok (.iastore, 1) := by decide +kernel
theorem dMo_copies_65 : decode cMo_copies 65 = .ok (.iload_n 3, 1) := by decide +kernel
theorem dMo_copies_66 : decode cMo_copies 66 = .ok (.ireturn, 1) := by decide +kernel
abbrev cMo_evidence : ByteArray := prog_9_method_14_code
def yMo_evidence : MethodName := ⟨RMo, "evidence", "(II)I"⟩
theorem dMo_evidence_0 : decode cMo_evidence 0 = .ok (.aload_n 0, 1) := by decide +kernel
theorem dMo_evidence_1 : decode cMo_evidence 1 = .ok (.iconst 0, 1) := by decide +kernel
theorem dMo_evidence_2 : decode cMo_evidence 2 = .ok (.putfield 65, 3) := by decide +kernel
theorem dMo_evidence_5 : decode cMo_evidence 5 = .ok (.aload_n 0, 1) := by decide +kernel
theorem dMo_evidence_6 : decode cMo_evidence 6 = .ok (.iload_n 1, 1) := by decide +kernel
theorem dMo_evidence_7 : decode cMo_evidence 7 = .ok (.invokevirtual 104, 3) := by decide +kernel
theorem dMo_evidence_10 : decode cMo_evidence 10 = .ok (.ifCond .ne 5, 3) := by decide +kernel
theorem dMo_evidence_13 : decode cMo_evidence 13 = .ok (.iconst (-1), 1) := by decide +kernel
theorem dMo_evidence_14 : decode cMo_evidence 14 = .ok (.ireturn, 1) := by decide +kernel
theorem dMo_evidence_15 : decode cMo_evidence 15 = .ok (.iload_n 2, 1) := by decide +kernel
theorem dMo_evidence_16 : decode cMo_evidence 16 = .ok (.i2l, 1) := by decide +kernel
theorem dMo_evidence_17 : decode cMo_evidence 17 = .ok (.ldc2_w 107, 3) := by decide +kernel
theorem dMo_evidence_20 : decode cMo_evidence 20 = .ok (.aload_n 0, 1) := by decide +kernel
theorem dMo_evidence_21 : decode cMo_evidence 21 = .ok (.getfield 7, 3) := by decide +kernel
theorem dMo_evidence_24 : decode cMo_evidence 24 = .ok (.iload_n 1, 1) := by decide +kernel
theorem dMo_evidence_25 : decode cMo_evidence 25 = .ok (.iaload, 1) := by decide +kernel
theorem dMo_evidence_26 : decode cMo_evidence 26 = .ok (.iconst 1, 1) := by decide +kernel
theorem dMo_evidence_27 : decode cMo_evidence 27 = .ok (.isub, 1) := by decide +kernel
theorem dMo_evidence_28 : decode cMo_evidence 28 = .ok (.i2l, 1) := by decide +kernel
theorem dMo_evidence_29 : decode cMo_evidence 29 = .ok (.invokestatic 71, 3) := by decide +kernel
theorem dMo_evidence_32 : decode cMo_evidence 32 = .ok (.ifCond .ne 6, 3) := by decide +kernel
theorem dMo_evidence_35 : decode cMo_evidence 35 = .ok (.bipush (-2), 2) := by decide +kernel
theorem dMo_evidence_37 : decode cMo_evidence 37 = .ok (.ireturn, 1) := by decide +kernel
theorem dMo_evidence_38 : decode cMo_evidence 38 = .ok (.aload_n 0, 1) := by decide +kernel
theorem dMo_evidence_39 : decode cMo_evidence 39 = .ok (.getfield 13, 3) := by decide +kernel
theorem dMo_evidence_42 : decode cMo_evidence 42 = .ok (.iload_n 1, 1) := by decide +kernel
theorem dMo_evidence_43 : decode cMo_evidence 43 = .ok (.iaload, 1) := by decide +kernel
theorem dMo_evidence_44 : decode cMo_evidence 44 = .ok (.istore_n 3, 1) := by decide +kernel
theorem dMo_evidence_45 : decode cMo_evidence 45 = .ok (.aload_n 0, 1) := by decide +kernel
theorem dMo_evidence_46 : decode cMo_evidence 46 = .ok (.getfield 13, 3) := by decide +kernel
theorem dMo_evidence_49 : decode cMo_evidence 49 = .ok (.iload_n 1, 1) := by decide +kernel
theorem dMo_evidence_50 : decode cMo_evidence 50 = .ok (.iload_n 2, 1) := by decide +kernel
theorem dMo_evidence_51 : decode cMo_evidence 51 = .ok (.iastore, 1) := by decide +kernel
theorem dMo_evidence_52 : decode cMo_evidence 52 = .ok (.iload_n 3, 1) := by decide +kernel
theorem dMo_evidence_53 : decode cMo_evidence 53 = .ok (.ireturn, 1) := by decide +kernel
abbrev cMo_memory : ByteArray := prog_9_method_15_code
def yMo_memory : MethodName := ⟨RMo, "memory", "(I)I"⟩
theorem dMo_memory_0 : decode cMo_memory 0 = .ok (.aload_n 0, 1) := by decide +kernel
theorem dMo_memory_1 : decode cMo_memory 1 = .ok (.iconst 0, 1) := by decide +kernel
theorem dMo_memory_2 : decode cMo_memory 2 = .ok (.putfield 65, 3) := by decide +kernel
theorem dMo_memory_5 : decode cMo_memory 5 = .ok (.iload_n 1, 1) := by decide +kernel
theorem dMo_memory_6 : decode cMo_memory 6 = .ok (.i2l, 1) := by decide +kernel
theorem dMo_memory_7 : decode cMo_memory 7 = .ok (.lconst 1, 1) := by decide +kernel
theorem dMo_memory_8 : decode cMo_memory 8 = .ok (.ldc2_w 109, 3) := by decide +kernel
theorem dMo_memory_11 : decode cMo_memory 11 = .ok (.invokestatic 71, 3) := by decide +kernel
theorem dMo_memory_14 : decode cMo_memory 14 = .ok (.ifCond .ne 6, 3) := by decide +kernel
theorem dMo_memory_17 : decode cMo_memory 17 = .ok (.bipush (-2), 2) := by decide +kernel
theorem dMo_memory_19 : decode cMo_memory 19 = .ok (.ireturn, 1) := by decide +kernel
theorem dMo_memory_20 : decode cMo_memory 20 = .ok (.aload_n 0, 1) := by decide +kernel
theorem dMo_memory_21 : decode cMo_memory 21 = .ok (.getfield 54, 3) := by decide +kernel
theorem dMo_memory_24 : decode cMo_memory 24 = .ok (.istore_n 2, 1) := by decide +kernel
theorem dMo_memory_25 : decode cMo_memory 25 = .ok (.aload_n 0, 1) := by decide +kernel
theorem dMo_memory_26 : decode cMo_memory 26 = .ok (.iload_n 1, 1) := by decide +kernel
theorem dMo_memory_27 : decode cMo_memory 27 = .ok (.putfield 54, 3) := by decide +kernel
theorem dMo_memory_30 : decode cMo_memory 30 = .ok (.iload_n 2, 1) := by decide +kernel
theorem dMo_memory_31 : decode cMo_memory 31 = .ok (.ireturn, 1) := by decide +kernel
abbrev cMo_place : ByteArray := prog_9_method_16_code
def yMo_place : MethodName := ⟨RMo, "place", "(II)I"⟩
theorem dMo_place_0 : decode cMo_place 0 = .ok (.aload_n 0, 1) := by decide +kernel
theorem dMo_place_1 : decode cMo_place 1 = .ok (.iconst 0, 1) := by decide +kernel
theorem dMo_place_2 : decode cMo_place 2 = .ok (.putfield 65, 3) := by decide +kernel
theorem dMo_place_5 : decode cMo_place 5 = .ok (.iload_n 1, 1) := by decide +kernel
theorem dMo_place_6 : decode cMo_place 6 = .ok (.i2l, 1) := by decide +kernel
theorem dMo_place_7 : decode cMo_place 7 = .ok (.lconst 0, 1) := by decide +kernel
theorem dMo_place_8 : decode cMo_place 8 = .ok (.ldc2_w 111, 3) := by decide +kernel
theorem dMo_place_11 : decode cMo_place 11 = .ok (.invokestatic 71, 3) := by decide +kernel
theorem dMo_place_14 : decode cMo_place 14 = .ok (.ifCond .ne 6, 3) := by decide +kernel
theorem dMo_place_17 : decode cMo_place 17 = .ok (.bipush (-2), 2) := by decide +kernel
theorem dMo_place_19 : decode cMo_place 19 = .ok (.ireturn, 1) := by decide +kernel
theorem dMo_place_20 : decode cMo_place 20 = .ok (.aload_n 0, 1) := by decide +kernel
theorem dMo_place_21 : decode cMo_place 21 = .ok (.iload_n 2, 1) := by decide +kernel
theorem dMo_place_22 : decode cMo_place 22 = .ok (.invokevirtual 104, 3) := by decide +kernel
theorem dMo_place_25 : decode cMo_place 25 = .ok (.ifCond .ne 5, 3) := by decide +kernel
theorem dMo_place_28 : decode cMo_place 28 = .ok (.iconst (-1), 1) := by decide +kernel
theorem dMo_place_29 : decode cMo_place 29 = .ok (.ireturn, 1) := by decide +kernel
theorem dMo_place_30 : decode cMo_place 30 = .ok (.aload_n 0, 1) := by decide +kernel
theorem dMo_place_31 : decode cMo_place 31 = .ok (.getfield 16, 3) := by decide +kernel
theorem dMo_place_34 : decode cMo_place 34 = .ok (.iload_n 1, 1) := by decide +kernel
theorem dMo_place_35 : decode cMo_place 35 = .ok (.iaload, 1) := by decide +kernel
theorem dMo_place_36 : decode cMo_place 36 = .ok (.istore_n 3, 1) := by decide +kernel
theorem dMo_place_37 : decode cMo_place 37 = .ok (.aload_n 0, 1) := by decide +kernel
theorem dMo_place_38 : decode cMo_place 38 = .ok (.getfield 16, 3) := by decide +kernel
theorem dMo_place_41 : decode cMo_place 41 = .ok (.iload_n 1, 1) := by decide +kernel
theorem dMo_place_42 : decode cMo_place 42 = .ok (.iload_n 2, 1) := by decide +kernel
theorem dMo_place_43 : decode cMo_place 43 = .ok (.iastore, 1) := by decide +kernel
theorem dMo_place_44 : decode cMo_place 44 = .ok (.iload_n 3, 1) := by decide +kernel
theorem dMo_place_45 : decode cMo_place 45 = .ok (.ireturn, 1) := by decide +kernel
abbrev cMo_draw : ByteArray := prog_9_method_17_code
def yMo_draw : MethodName := ⟨RMo, "draw", "()V"⟩
theorem dMo_draw_0 : decode cMo_draw 0 = .ok (.iconst 0, 1) := by decide +kernel
theorem dMo_draw_1 : decode cMo_draw 1 = .ok (.istore_n 1, 1) := by decide +kernel
theorem dMo_draw_2 : decode cMo_draw 2 = .ok (.iload_n 1, 1) := by decide +kernel
theorem dMo_draw_3 : decode cMo_draw 3 = .ok (.aload_n 0, 1) := by decide +kernel
theorem dMo_draw_4 : decode cMo_draw 4 = .ok (.getfield 68, 3) := by decide +kernel
theorem dMo_draw_7 : decode cMo_draw 7 = .ok (.if_icmp .ge 92, 3) := by decide +kernel
theorem dMo_draw_10 : decode cMo_draw 10 = .ok (.aload_n 0, 1) := by decide +kernel
theorem dMo_draw_11 : decode cMo_draw 11 = .ok (.getfield 34, 3) := by decide +kernel
theorem dMo_draw_14 : decode cMo_draw 14 = .ok (.iload_n 1, 1) := by decide +kernel
theorem dMo_draw_15 : decode cMo_draw 15 = .ok (.iconst 0, 1) := by decide +kernel
theorem dMo_draw_16 : decode cMo_draw 16 = .ok (.iastore, 1) := by decide +kernel
theorem dMo_draw_17 : decode cMo_draw 17 = .ok (.iconst 0, 1) := by decide +kernel
theorem dMo_draw_18 : decode cMo_draw 18 = .ok (.istore_n 2, 1) := by decide +kernel
theorem dMo_draw_19 : decode cMo_draw 19 = .ok (.iload_n 2, 1) := by decide +kernel
theorem dMo_draw_20 : decode cMo_draw 20 = .ok (.aload_n 0, 1) := by decide +kernel
theorem dMo_draw_21 : decode cMo_draw 21 = .ok (.getfield 79, 3) := by decide +kernel
theorem dMo_draw_24 : decode cMo_draw 24 = .ok (.if_icmp .ge 51, 3) := by decide +kernel
theorem dMo_draw_27 : decode cMo_draw 27 = .ok (.aload_n 0, 1) := by decide +kernel
theorem dMo_draw_28 : decode cMo_draw 28 = .ok (.getfield 34, 3) := by decide +kernel
theorem dMo_draw_31 : decode cMo_draw 31 = .ok (.iload_n 1, 1) := by decide +kernel
theorem dMo_draw_32 : decode cMo_draw 32 = .ok (.aload_n 0, 1) := by decide +kernel
theorem dMo_draw_33 : decode cMo_draw 33 = .ok (.getfield 19, 3) := by decide +kernel
theorem dMo_draw_36 : decode cMo_draw 36 = .ok (.iload_n 2, 1) := by decide +kernel
theorem dMo_draw_37 : decode cMo_draw 37 = .ok (.iaload, 1) := by decide +kernel
theorem dMo_draw_38 : decode cMo_draw 38 = .ok (.iload_n 1, 1) := by decide +kernel
theorem dMo_draw_39 : decode cMo_draw 39 = .ok (.ishr, 1) := by decide +kernel
theorem dMo_draw_40 : decode cMo_draw 40 = .ok (.iconst 1, 1) := by decide +kernel
theorem dMo_draw_41 : decode cMo_draw 41 = .ok (.iand, 1) := by decide +kernel
theorem dMo_draw_42 : decode cMo_draw 42 = .ok (.iconst 1, 1) := by decide +kernel
theorem dMo_draw_43 : decode cMo_draw 43 = .ok (.if_icmp .ne 19, 3) := by decide +kernel
theorem dMo_draw_46 : decode cMo_draw 46 = .ok (.aload_n 0, 1) := by decide +kernel
theorem dMo_draw_47 : decode cMo_draw 47 = .ok (.getfield 34, 3) := by decide +kernel
theorem dMo_draw_50 : decode cMo_draw 50 = .ok (.iload_n 1, 1) := by decide +kernel
theorem dMo_draw_51 : decode cMo_draw 51 = .ok (.iaload, 1) := by decide +kernel
theorem dMo_draw_52 : decode cMo_draw 52 = .ok (.aload_n 0, 1) := by decide +kernel
theorem dMo_draw_53 : decode cMo_draw 53 = .ok (.getfield 19, 3) := by decide +kernel
theorem dMo_draw_56 : decode cMo_draw 56 = .ok (.iload_n 2, 1) := by decide +kernel
theorem dMo_draw_57 : decode cMo_draw 57 = .ok (.iaload, 1) := by decide +kernel
theorem dMo_draw_58 : decode cMo_draw 58 = .ok (.ior, 1) := by decide +kernel
theorem dMo_draw_59 : decode cMo_draw 59 = .ok (.goto 9, 3) := by decide +kernel
theorem dMo_draw_62 : decode cMo_draw 62 = .ok (.aload_n 0, 1) := by decide +kernel
theorem dMo_draw_63 : decode cMo_draw 63 = .ok (.getfield 34, 3) := by decide +kernel
theorem dMo_draw_66 : decode cMo_draw 66 = .ok (.iload_n 1, 1) := by decide +kernel
theorem dMo_draw_67 : decode cMo_draw 67 = .ok (.iaload, 1) := by decide +kernel
theorem dMo_draw_68 : decode cMo_draw 68 = .ok (.iastore, 1) := by decide +kernel
theorem dMo_draw_69 : decode cMo_draw 69 = .ok (.iinc 2 1, 3) := by decide +kernel
theorem dMo_draw_72 : decode cMo_draw 72 = .ok (.goto (-53), 3) := by decide +kernel
theorem dMo_draw_75 : decode cMo_draw 75 = .ok (.aload_n 0, 1) := by decide +kernel
theorem dMo_draw_76 : decode cMo_draw 76 = .ok (.getfield 34, 3) := by decide +kernel
theorem dMo_draw_79 : decode cMo_draw 79 = .ok (.iload_n 1, 1) := by decide +kernel
theorem dMo_draw_80 : decode cMo_draw 80 = .ok (.aload_n 0, 1) := by decide +kernel
theorem dMo_draw_81 : decode cMo_draw 81 = .ok (.getfield 34, 3) := by decide +kernel
theorem dMo_draw_84 : decode cMo_draw 84 = .ok (.iload_n 1, 1) := by decide +kernel
theorem dMo_draw_85 : decode cMo_draw 85 = .ok (.iaload, 1) := by decide +kernel
theorem dMo_draw_86 : decode cMo_draw 86 = .ok (.iconst 1, 1) := by decide +kernel
theorem dMo_draw_87 : decode cMo_draw 87 = .ok (.iload_n 1, 1) := by decide +kernel
theorem dMo_draw_88 : decode cMo_draw 88 = .ok (.ishl, 1) := by decide +kernel
theorem dMo_draw_89 : decode cMo_draw 89 = .ok (.iconst (-1), 1) := by decide +kernel
theorem dMo_draw_90 : decode cMo_draw 90 = .ok (.ixor, 1) := by decide +kernel
theorem dMo_draw_91 : decode cMo_draw 91 = .ok (.iand, 1) := by decide +kernel
theorem dMo_draw_92 : decode cMo_draw 92 = .ok (.iastore, 1) := by decide +kernel
theorem dMo_draw_93 : decode cMo_draw 93 = .ok (.iinc 1 1, 3) := by decide +kernel
theorem dMo_draw_96 : decode cMo_draw 96 = .ok (.goto (-94), 3) := by decide +kernel
theorem dMo_draw_99 : decode cMo_draw 99 = .ok (.return_, 1) := by decide +kernel
abbrev cMo_fill : ByteArray := prog_9_method_18_code
def yMo_fill : MethodName := ⟨RMo, "fill", "(I)I"⟩
theorem dMo_fill_0 : decode cMo_fill 0 = .ok (.iconst 0, 1) := by decide +kernel
theorem dMo_fill_1 : decode cMo_fill 1 = .ok (.istore_n 2, 1) := by decide +kernel
theorem dMo_fill_2 : decode cMo_fill 2 = .ok (.iconst 0, 1) := by decide +kernel
theorem dMo_fill_3 : decode cMo_fill 3 = .ok (.istore_n 3, 1) := by decide +kernel
theorem dMo_fill_4 : decode cMo_fill 4 = .ok (.iload_n 3, 1) := by decide +kernel
theorem dMo_fill_5 : decode cMo_fill 5 = .ok (.aload_n 0, 1) := by decide +kernel
theorem dMo_fill_6 : decode cMo_fill 6 = .ok (.getfield 68, 3) := by decide +kernel
theorem dMo_fill_9 : decode cMo_fill 9 = .ok (.if_icmp .ge 87, 3) := by decide +kernel
theorem dMo_fill_12 : decode cMo_fill 12 = .ok (.iconst 0, 1) := by decide +kernel
theorem dMo_fill_13 : decode cMo_fill 13 = .ok (.istore 4, 2) := by decide +kernel
theorem dMo_fill_15 : decode cMo_fill 15 = .ok (.iload 4, 2) := by decide +kernel
theorem dMo_fill_17 : decode cMo_fill 17 = .ok (.iload_n 3, 1) := by decide +kernel
theorem dMo_fill_18 : decode cMo_fill 18 = .ok (.if_icmp .ge 72, 3) := by decide +kernel
theorem dMo_fill_21 : decode cMo_fill 21 = .ok (.aload_n 0, 1) := by decide +kernel
theorem dMo_fill_22 : decode cMo_fill 22 = .ok (.getfield 34, 3) := by decide +kernel
theorem dMo_fill_25 : decode cMo_fill 25 = .ok (.iload_n 1, 1) := by decide +kernel
theorem dMo_fill_26 : decode cMo_fill 26 = .ok (.iaload, 1) := by decide +kernel
theorem dMo_fill_27 : decode cMo_fill 27 = .ok (.iload_n 3, 1) := by decide +kernel
theorem dMo_fill_28 : decode cMo_fill 28 = .ok (.ishr, 1) := by decide +kernel
theorem dMo_fill_29 : decode cMo_fill 29 = .ok (.iconst 1, 1) := by decide +kernel
theorem dMo_fill_30 : decode cMo_fill 30 = .ok (.iand, 1) := by decide +kernel
theorem dMo_fill_31 : decode cMo_fill 31 = .ok (.iconst 1, 1) := by decide +kernel
theorem dMo_fill_32 : decode cMo_fill 32 = .ok (.if_icmp .ne 22, 3) := by decide +kernel
theorem dMo_fill_35 : decode cMo_fill 35 = .ok (.aload_n 0, 1) := by decide +kernel
theorem dMo_fill_36 : decode cMo_fill 36 = .ok (.getfield 34, 3) := by decide +kernel
theorem dMo_fill_39 : decode cMo_fill 39 = .ok (.iload_n 1, 1) := by decide +kernel
theorem dMo_fill_40 : decode cMo_fill 40 = .ok (.iaload, 1) := by decide +kernel
theorem dMo_fill_41 : decode cMo_fill 41 = .ok (.iload 4, 2) := by decide +kernel
theorem dMo_fill_43 : decode cMo_fill 43 = .ok (.ishr, 1) := by decide +kernel
theorem dMo_fill_44 : decode cMo_fill 44 = .ok (.iconst 1, 1) := by decide +kernel
theorem dMo_fill_45 : decode cMo_fill 45 = .ok (.iand, 1) := by decide +kernel
theorem dMo_fill_46 : decode cMo_fill 46 = .ok (.iconst 1, 1) := by decide +kernel
theorem dMo_fill_47 : decode cMo_fill 47 = .ok (.if_icmp .ne 7, 3) := by decide +kernel
theorem dMo_fill_50 : decode cMo_fill 50 = .ok (.iconst 1, 1) := by decide +kernel
theorem dMo_fill_51 : decode cMo_fill 51 = .ok (.goto 4, 3) := by decide +kernel
theorem dMo_fill_54 : decode cMo_fill 54 = .ok (.iconst 0, 1) := by decide +kernel
theorem dMo_fill_55 : decode cMo_fill 55 = .ok (.istore 5, 2) := by decide +kernel
theorem dMo_fill_57 : decode cMo_fill 57 = .ok (.iload 5, 2) := by decide +kernel
theorem dMo_fill_59 : decode cMo_fill 59 = .ok (.ifCond .eq 23, 3) := by decide +kernel
theorem dMo_fill_62 : decode cMo_fill 62 = .ok (.aload_n 0, 1) := by decide +kernel
theorem dMo_fill_63 : decode cMo_fill 63 = .ok (.getfield 34, 3) := by decide +kernel
theorem dMo_fill_66 : decode cMo_fill 66 = .ok (.iload_n 3, 1) := by decide +kernel
theorem dMo_fill_67 : decode cMo_fill 67 = .ok (.iaload, 1) := by decide +kernel
theorem dMo_fill_68 : decode cMo_fill 68 = .ok (.iload 4, 2) := by decide +kernel
theorem dMo_fill_70 : decode cMo_fill 70 = .ok (.ishr, 1) := by decide +kernel
theorem dMo_fill_71 : decode cMo_fill 71 = .ok (.iconst 1, 1) := by decide +kernel
theorem dMo_fill_72 : decode cMo_fill 72 = .ok (.iand, 1) := by decide +kernel
theorem dMo_fill_73 : decode cMo_fill 73 = .ok (.ifCond .ne 9, 3) := by decide +kernel
theorem dMo_fill_76 : decode cMo_fill 76 = .ok (.iload_n 2, 1) := by decide +kernel
theorem dMo_fill_77 : decode cMo_fill 77 = .ok (.iconst 1, 1) := by decide +kernel
theorem dMo_fill_78 : decode cMo_fill 78 = .ok (.iadd, 1) := by decide +kernel
theorem dMo_fill_79 : decode cMo_fill 79 = .ok (.goto 4, 3) := by decide +kernel
theorem dMo_fill_82 : decode cMo_fill 82 = .ok (.iload_n 2, 1) := by decide +kernel
theorem dMo_fill_83 : decode cMo_fill 83 = .ok (.istore_n 2, 1) := by decide +kernel
theorem dMo_fill_84 : decode cMo_fill 84 = .ok (.iinc 4 1, 3) := by decide +kernel
theorem dMo_fill_87 : decode cMo_fill 87 = .ok (.goto (-72), 3) := by decide +kernel
theorem dMo_fill_90 : decode cMo_fill 90 = .ok (.iinc 3 1, 3) := by decide +kernel
theorem dMo_fill_93 : decode cMo_fill 93 = .ok (.goto (-89), 3) := by decide +kernel
theorem dMo_fill_96 : decode cMo_fill 96 = .ok (.iload_n 2, 1) := by decide +kernel
theorem dMo_fill_97 : decode cMo_fill 97 = .ok (.ireturn, 1) := by decide +kernel
abbrev cMo_takeOut : ByteArray := prog_9_method_19_code
def yMo_takeOut : MethodName := ⟨RMo, "takeOut", "(II)V"⟩
theorem dMo_takeOut_0 : decode cMo_takeOut 0 = .ok (.aload_n 0, 1) := by decide +kernel
theorem dMo_takeOut_1 : decode cMo_takeOut 1 = .ok (.getfield 28, 3) := by decide +kernel
theorem dMo_takeOut_4 : decode cMo_takeOut 4 = .ok (.iload_n 2, 1) := by decide +kernel
theorem dMo_takeOut_5 : decode cMo_takeOut 5 = .ok (.iload_n 1, 1) := by decide +kernel
theorem dMo_takeOut_6 : decode cMo_takeOut 6 = .ok (.iastore, 1) := by decide +kernel
theorem dMo_takeOut_7 : decode cMo_takeOut 7 = .ok (.aload_n 0, 1) := by decide +kernel
theorem dMo_takeOut_8 : decode cMo_takeOut 8 = .ok (.getfield 31, 3) := by decide +kernel
theorem dMo_takeOut_11 : decode cMo_takeOut 11 = .ok (.iload_n 2, 1) := by decide +kernel
theorem dMo_takeOut_12 : decode cMo_takeOut 12 = .ok (.aload_n 0, 1) := by decide +kernel
theorem dMo_takeOut_13 : decode cMo_takeOut 13 = .ok (.getfield 34, 3) := by decide +kernel
theorem dMo_takeOut_16 : decode cMo_takeOut 16 = .ok (.iload_n 1, 1) := by decide +kernel
theorem dMo_takeOut_17 : decode cMo_takeOut 17 = .ok (.iaload, 1) := by decide +kernel
theorem dMo_takeOut_18 : decode cMo_takeOut 18 = .ok (.iconst 1, 1) := by decide +kernel
theorem dMo_takeOut_19 : decode cMo_takeOut 19 = .ok (.iload_n 1, 1) := by decide +kernel
theorem dMo_takeOut_20 : decode cMo_takeOut 20 = .ok (.ishl, 1) := by decide +kernel
theorem dMo_takeOut_21 : decode cMo_takeOut 21 = .ok (.ior, 1) := by decide +kernel
theorem dMo_takeOut_22 : decode cMo_takeOut 22 = .ok (.iastore, 1) := by decide +kernel
theorem dMo_takeOut_23 : decode cMo_takeOut 23 = .ok (.aload_n 0, 1) := by decide +kernel
theorem dMo_takeOut_24 : decode cMo_takeOut 24 = .ok (.dup, 1) := by decide +kernel
theorem dMo_takeOut_25 : decode cMo_takeOut 25 = .ok (.getfield 113, 3) := by decide +kernel
theorem dMo_takeOut_28 : decode cMo_takeOut 28 = .ok (.aload_n 0, 1) := by decide +kernel
theorem dMo_takeOut_29 : decode cMo_takeOut 29 = .ok (.iload_n 1, 1) := by decide +kernel
theorem dMo_takeOut_30 : decode cMo_takeOut 30 = .ok (.invokevirtual 116, 3) := by decide +kernel
theorem dMo_takeOut_33 : decode cMo_takeOut 33 = .ok (.iadd, 1) := by decide +kernel
theorem dMo_takeOut_34 : decode cMo_takeOut 34 = .ok (.putfield 113, 3) := by decide +kernel
theorem dMo_takeOut_37 : decode cMo_takeOut 37 = .ok (.aload_n 0, 1) := by decide +kernel
theorem dMo_takeOut_38 : decode cMo_takeOut 38 = .ok (.getfield 34, 3) := by decide +kernel
theorem dMo_takeOut_41 : decode cMo_takeOut 41 = .ok (.iload_n 1, 1) := by decide +kernel
theorem dMo_takeOut_42 : decode cMo_takeOut 42 = .ok (.iaload, 1) := by decide +kernel
theorem dMo_takeOut_43 : decode cMo_takeOut 43 = .ok (.istore_n 3, 1) := by decide +kernel
theorem dMo_takeOut_44 : decode cMo_takeOut 44 = .ok (.iconst 0, 1) := by decide +kernel
theorem dMo_takeOut_45 : decode cMo_takeOut 45 = .ok (.istore 4, 2) := by decide +kernel
theorem dMo_takeOut_47 : decode cMo_takeOut 47 = .ok (.iload 4, 2) := by decide +kernel
theorem dMo_takeOut_49 : decode cMo_takeOut 49 = .ok (.aload_n 0, 1) := by decide +kernel
theorem dMo_takeOut_50 : decode cMo_takeOut 50 = .ok (.getfield 68, 3) := by decide +kernel
theorem dMo_takeOut_53 : decode cMo_takeOut 53 = .ok (.if_icmp .ge 48, 3) := by decide +kernel
theorem dMo_takeOut_56 : decode cMo_takeOut 56 = .ok (.iload_n 3, 1) := by decide +kernel
theorem dMo_takeOut_57 : decode cMo_takeOut 57 = .ok (.iload 4, 2) := by decide +kernel
theorem dMo_takeOut_59 : decode cMo_takeOut 59 = .ok (.ishr, 1) := by decide +kernel
theorem dMo_takeOut_60 : decode cMo_takeOut 60 = .ok (.iconst 1, 1) := by decide +kernel
theorem dMo_takeOut_61 : decode cMo_takeOut 61 = .ok (.iand, 1) := by decide +kernel
theorem dMo_takeOut_62 : decode cMo_takeOut 62 = .ok (.iconst 1, 1) := by decide +kernel
theorem dMo_takeOut_63 : decode cMo_takeOut 63 = .ok (.if_icmp .ne 32, 3) := by decide +kernel
theorem dMo_takeOut_66 : decode cMo_takeOut 66 = .ok (.aload_n 0, 1) := by decide +kernel
theorem dMo_takeOut_67 : decode cMo_takeOut 67 = .ok (.getfield 34, 3) := by decide +kernel
theorem dMo_takeOut_70 : decode cMo_takeOut 70 = .ok (.iload 4, 2) := by decide +kernel
theorem dMo_takeOut_72 : decode cMo_takeOut 72 = .ok (.aload_n 0, 1) := by decide +kernel
theorem dMo_takeOut_73 : decode cMo_takeOut 73 = .ok (.getfield 34, 3) := by decide +kernel
theorem dMo_takeOut_76 : decode cMo_takeOut 76 = .ok (.iload 4, 2) := by decide +kernel
theorem dMo_takeOut_78 : decode cMo_takeOut 78 = .ok (.iaload, 1) := by decide +kernel
theorem dMo_takeOut_79 : decode cMo_takeOut 79 = .ok (.iload_n 3, 1) := by decide +kernel
theorem dMo_takeOut_80 : decode cMo_takeOut 80 = .ok (.ior, 1) := by decide +kernel
theorem dMo_takeOut_81 : decode cMo_takeOut 81 = .ok (.iconst 1, 1) := by decide +kernel
theorem dMo_takeOut_82 : decode cMo_takeOut 82 = .ok (.iload 4, 2) := by decide +kernel
theorem dMo_takeOut_84 : decode cMo_takeOut 84 = .ok (.ishl, 1) := by decide +kernel
theorem dMo_takeOut_85 : decode cMo_takeOut 85 = .ok (.iconst (-1), 1) := by decide +kernel
theorem dMo_takeOut_86 : decode cMo_takeOut 86 = .ok (.ixor, 1) := by decide +kernel
theorem dMo_takeOut_87 : decode cMo_takeOut 87 = .ok (.iand, 1) := by decide +kernel
theorem dMo_takeOut_88 : decode cMo_takeOut 88 = .ok (.iconst 1, 1) := by decide +kernel
theorem dMo_takeOut_89 : decode cMo_takeOut 89 = .ok (.iload_n 1, 1) := by decide +kernel
theorem dMo_takeOut_90 : decode cMo_takeOut 90 = .ok (.ishl, 1) := by decide +kernel
theorem dMo_takeOut_91 : decode cMo_takeOut 91 = .ok (.iconst (-1), 1) := by decide +kernel
theorem dMo_takeOut_92 : decode cMo_takeOut 92 = .ok (.ixor, 1) := by decide +kernel
theorem dMo_takeOut_93 : decode cMo_takeOut 93 = .ok (.iand, 1) := by decide +kernel
theorem dMo_takeOut_94 : decode cMo_takeOut 94 = .ok (.iastore, 1) := by decide +kernel
theorem dMo_takeOut_95 : decode cMo_takeOut 95 = .ok (.iinc 4 1, 3) := by decide +kernel
theorem dMo_takeOut_98 : decode cMo_takeOut 98 = .ok (.goto (-51), 3) := by decide +kernel
theorem dMo_takeOut_101 : decode cMo_takeOut 101 = .ok (.aload_n 0, 1) := by decide +kernel
theorem dMo_takeOut_102 : decode cMo_takeOut 102 = .ok (.getfield 34, 3) := by decide +kernel
theorem dMo_takeOut_105 : decode cMo_takeOut 105 = .ok (.iload_n 1, 1) := by decide +kernel
theorem dMo_takeOut_106 : decode cMo_takeOut 106 = .ok (.iconst 0, 1) := by decide +kernel
theorem dMo_takeOut_107 : decode cMo_takeOut 107 = .ok (.iastore, 1) := by decide +kernel
theorem dMo_takeOut_108 : decode cMo_takeOut 108 = .ok (.return_, 1) := by decide +kernel
abbrev cMo_pick : ByteArray := prog_9_method_20_code
def yMo_pick : MethodName := ⟨RMo, "pick", "(II)I"⟩
theorem dMo_pick_0 : decode cMo_pick 0 = .ok (.iconst (-1), 1) := by decide +kernel
theorem dMo_pick_1 : decode cMo_pick 1 = .ok (.istore_n 3, 1) := by decide +kernel
theorem dMo_pick_2 : decode cMo_pick 2 = .ok (.iconst 0, 1) := by decide +kernel
theorem dMo_pick_3 : decode cMo_pick 3 = .ok (.istore 4, 2) := by decide +kernel
theorem dMo_pick_5 : decode cMo_pick 5 = .ok (.iconst 0, 1) := by decide +kernel
theorem dMo_pick_6 : decode cMo_pick 6 = .ok (.istore 5, 2) := by decide +kernel
theorem dMo_pick_8 : decode cMo_pick 8 = .ok (.iload 5, 2) := by decide +kernel
theorem dMo_pick_10 : decode cMo_pick 10 = .ok (.aload_n 0, 1) := by decide +kernel
theorem dMo_pick_11 : decode cMo_pick 11 = .ok (.getfield 68, 3) := by decide +kernel
theorem dMo_pick_14 : decode cMo_pick 14 = .ok (.if_icmp .ge 87, 3) := by decide +kernel
theorem dMo_pick_17 : decode cMo_pick 17 = .ok (.iload_n 2, 1) := by decide +kernel
theorem dMo_pick_18 : decode cMo_pick 18 = .ok (.iload 5, 2) := by decide +kernel
theorem dMo_pick_20 : decode cMo_pick 20 = .ok (.ishr, 1) := by decide +kernel
theorem dMo_pick_21 : decode cMo_pick 21 = .ok (.iconst 1, 1) := by decide +kernel
theorem dMo_pick_22 : decode cMo_pick 22 = .ok (.iand, 1) := by decide +kernel
theorem dMo_pick_23 : decode cMo_pick 23 = .ok (.ifCond .ne 72, 3) := by decide +kernel
theorem dMo_pick_26 : decode cMo_pick 26 = .ok (.iload_n 1, 1) := by decide +kernel
theorem dMo_pick_27 : decode cMo_pick 27 = .ok (.iconst 2, 1) := by decide +kernel
theorem dMo_pick_28 : decode cMo_pick 28 = .ok (.if_icmp .ne 16, 3) := by decide +kernel
theorem dMo_pick_31 : decode cMo_pick 31 = .ok (.aload_n 0, 1) := by decide +kernel
theorem dMo_pick_32 : decode cMo_pick 32 = .ok (.getfield 34, 3) := by decide +kernel
theorem dMo_pick_35 : decode cMo_pick 35 = .ok (.iload 5, 2) := by decide +kernel
theorem dMo_pick_37 : decode cMo_pick 37 = .ok (.iaload, 1) := by decide +kernel
theorem dMo_pick_38 : decode cMo_pick 38 = .ok (.invokestatic 86, 3) := by decide +kernel
theorem dMo_pick_41 : decode cMo_pick 41 = .ok (.goto 33, 3) := by decide +kernel
theorem dMo_pick_44 : decode cMo_pick 44 = .ok (.iload_n 1, 1) := by decide +kernel
theorem dMo_pick_45 : decode cMo_pick 45 = .ok (.iconst 3, 1) := by decide +kernel
theorem dMo_pick_46 : decode cMo_pick 46 = .ok (.if_icmp .ne 12, 3) := by decide +kernel
theorem dMo_pick_49 : decode cMo_pick 49 = .ok (.aload_n 0, 1) := by decide +kernel
theorem dMo_pick_50 : decode cMo_pick 50 = .ok (.iload 5, 2) := by decide +kernel
theorem dMo_pick_52 : decode cMo_pick 52 = .ok (.invokevirtual 116, 3) := by decide +kernel
theorem dMo_pick_55 : decode cMo_pick 55 = .ok (.goto 19, 3) := by decide +kernel
theorem dMo_pick_58 : decode cMo_pick 58 = .ok (.aload_n 0, 1) := by decide +kernel
theorem dMo_pick_59 : decode cMo_pick 59 = .ok (.aload_n 0, 1) := by decide +kernel
theorem dMo_pick_60 : decode cMo_pick 60 = .ok (.getfield 34, 3) := by decide +kernel
theorem dMo_pick_63 : decode cMo_pick 63 = .ok (.iload 5, 2) := by decide +kernel
theorem dMo_pick_65 : decode cMo_pick 65 = .ok (.iaload, 1) := by decide +kernel
theorem dMo_pick_66 : decode cMo_pick 66 = .ok (.iconst 1, 1) := by decide +kernel
theorem dMo_pick_67 : decode cMo_pick 67 = .ok (.iload 5, 2) := by decide +kernel
theorem dMo_pick_69 : decode cMo_pick 69 = .ok (.ishl, 1) := by decide +kernel
theorem dMo_pick_70 : decode cMo_pick 70 = .ok (.ior, 1) := by decide +kernel
theorem dMo_pick_71 : decode cMo_pick 71 = .ok (.invokevirtual 97, 3) := by decide +kernel
theorem dMo_pick_74 : decode cMo_pick 74 = .ok (.istore 6, 2) := by decide +kernel
theorem dMo_pick_76 : decode cMo_pick 76 = .ok (.iload_n 3, 1) := by decide +kernel
theorem dMo_pick_77 : decode cMo_pick 77 = .ok (.iconst (-1), 1) := by decide +kernel
theorem dMo_pick_78 : decode cMo_pick 78 = .ok (.if_icmp .eq 10, 3) := by decide +kernel
theorem dMo_pick_81 : decode cMo_pick 81 = .ok (.iload 6, 2) := by decide +kernel
theorem dMo_pick_83 : decode cMo_pick 83 = .ok (.iload 4, 2) := by decide +kernel
theorem dMo_pick_85 : decode cMo_pick 85 = .ok (.if_icmp .ge 10, 3) := by decide +kernel
theorem dMo_pick_88 : decode cMo_pick 88 = .ok (.iload 5, 2) := by decide +kernel
theorem dMo_pick_90 : decode cMo_pick 90 = .ok (.istore_n 3, 1) := by decide +kernel
theorem dMo_pick_91 : decode cMo_pick 91 = .ok (.iload 6, 2) := by decide +kernel
theorem dMo_pick_93 : decode cMo_pick 93 = .ok (.istore 4, 2) := by decide +kernel
theorem dMo_pick_95 : decode cMo_pick 95 = .ok (.iinc 5 1, 3) := by decide +kernel
theorem dMo_pick_98 : decode cMo_pick 98 = .ok (.goto (-90), 3) := by decide +kernel
theorem dMo_pick_101 : decode cMo_pick 101 = .ok (.iload_n 3, 1) := by decide +kernel
theorem dMo_pick_102 : decode cMo_pick 102 = .ok (.ireturn, 1) := by decide +kernel
abbrev cMo_bagOf : ByteArray := prog_9_method_21_code
def yMo_bagOf : MethodName := ⟨RMo, "bagOf", "(II)I"⟩
theorem dMo_bagOf_0 : decode cMo_bagOf 0 = .ok (.iconst 1, 1) := by decide +kernel
theorem dMo_bagOf_1 : decode cMo_bagOf 1 = .ok (.iload_n 1, 1) := by decide +kernel
theorem dMo_bagOf_2 : decode cMo_bagOf 2 = .ok (.ishl, 1) := by decide +kernel
theorem dMo_bagOf_3 : decode cMo_bagOf 3 = .ok (.istore_n 3, 1) := by decide +kernel
theorem dMo_bagOf_4 : decode cMo_bagOf 4 = .ok (.iconst 1, 1) := by decide +kernel
theorem dMo_bagOf_5 : decode cMo_bagOf 5 = .ok (.iload_n 1, 1) := by decide +kernel
theorem dMo_bagOf_6 : decode cMo_bagOf 6 = .ok (.ishl, 1) := by decide +kernel
theorem dMo_bagOf_7 : decode cMo_bagOf 7 = .ok (.istore 4, 2) := by decide +kernel
theorem dMo_bagOf_9 : decode cMo_bagOf 9 = .ok (.iconst 1, 1) := by decide +kernel
theorem dMo_bagOf_10 : decode cMo_bagOf 10 = .ok (.istore 5, 2) := by decide +kernel
theorem dMo_bagOf_12 : decode cMo_bagOf 12 = .ok (.iload 5, 2) := by decide +kernel
theorem dMo_bagOf_14 : decode cMo_bagOf 14 = .ok (.ifCond .eq 102, 3) := by decide +kernel
theorem dMo_bagOf_17 : decode cMo_bagOf 17 = .ok (.iload 4, 2) := by decide +kernel
theorem dMo_bagOf_19 : decode cMo_bagOf 19 = .ok (.istore 6, 2) := by decide +kernel
theorem dMo_bagOf_21 : decode cMo_bagOf 21 = .ok (.iconst 0, 1) := by decide +kernel
theorem dMo_bagOf_22 : decode cMo_bagOf 22 = .ok (.istore 7, 2) := by decide +kernel
theorem dMo_bagOf_24 : decode cMo_bagOf 24 = .ok (.iload 7, 2) := by decide +kernel
theorem dMo_bagOf_26 : decode cMo_bagOf 26 = .ok (.aload_n 0, 1) := by decide +kernel
theorem dMo_bagOf_27 : decode cMo_bagOf 27 = .ok (.getfield 68, 3) := by decide +kernel
theorem dMo_bagOf_30 : decode cMo_bagOf 30 = .ok (.if_icmp .ge 65, 3) := by decide +kernel
theorem dMo_bagOf_33 : decode cMo_bagOf 33 = .ok (.iload 4, 2) := by decide +kernel
theorem dMo_bagOf_35 : decode cMo_bagOf 35 = .ok (.iload 7, 2) := by decide +kernel
theorem dMo_bagOf_37 : decode cMo_bagOf 37 = .ok (.ishr, 1) := by decide +kernel
theorem dMo_bagOf_38 : decode cMo_bagOf 38 = .ok (.iconst 1, 1) := by decide +kernel
theorem dMo_bagOf_39 : decode cMo_bagOf 39 = .ok (.iand, 1) := by decide +kernel
theorem dMo_bagOf_40 : decode cMo_bagOf 40 = .ok (.iconst 1, 1) := by decide +kernel
theorem dMo_bagOf_41 : decode cMo_bagOf 41 = .ok (.if_icmp .ne 23, 3) := by decide +kernel
theorem dMo_bagOf_44 : decode cMo_bagOf 44 = .ok (.iload 7, 2) := by decide +kernel
theorem dMo_bagOf_46 : decode cMo_bagOf 46 = .ok (.iload_n 1, 1) := by decide +kernel
theorem dMo_bagOf_47 : decode cMo_bagOf 47 = .ok (.if_icmp .eq 13, 3) := by decide +kernel
theorem dMo_bagOf_50 : decode cMo_bagOf 50 = .ok (.iload_n 2, 1) := by decide +kernel
theorem dMo_bagOf_51 : decode cMo_bagOf 51 = .ok (.iload 7, 2) := by decide +kernel
theorem dMo_bagOf_53 : decode cMo_bagOf 53 = .ok (.ishr, 1) := by decide +kernel
theorem dMo_bagOf_54 : decode cMo_bagOf 54 = .ok (.iconst 1, 1) := by decide +kernel
theorem dMo_bagOf_55 : decode cMo_bagOf 55 = .ok (.iand, 1) := by decide +kernel
theorem dMo_bagOf_56 : decode cMo_bagOf 56 = .ok (.iconst 1, 1) := by decide +kernel
theorem dMo_bagOf_57 : decode cMo_bagOf 57 = .ok (.if_icmp .ne 7, 3) := by decide +kernel
theorem dMo_bagOf_60 : decode cMo_bagOf 60 = .ok (.iconst 1, 1) := by decide +kernel
theorem dMo_bagOf_61 : decode cMo_bagOf 61 = .ok (.goto 4, 3) := by decide +kernel
theorem dMo_bagOf_64 : decode cMo_bagOf 64 = .ok (.iconst 0, 1) := by decide +kernel
theorem dMo_bagOf_65 : decode cMo_bagOf 65 = .ok (.istore 8, 2) := by decide +kernel
theorem dMo_bagOf_67 : decode cMo_bagOf 67 = .ok (.iload 8, 2) := by decide +kernel
theorem dMo_bagOf_69 : decode cMo_bagOf 69 = .ok (.ifCond .eq 16, 3) := by decide +kernel
theorem dMo_bagOf_72 : decode cMo_bagOf 72 = .ok (.iload 6, 2) := by decide +kernel
theorem dMo_bagOf_74 : decode cMo_bagOf 74 = .ok (.aload_n 0, 1) := by decide +kernel
theorem dMo_bagOf_75 : decode cMo_bagOf 75 = .ok (.getfield 34, 3) := by decide +kernel
theorem dMo_bagOf_78 : decode cMo_bagOf 78 = .ok (.iload 7, 2) := by decide +kernel
theorem dMo_bagOf_80 : decode cMo_bagOf 80 = .ok (.iaload, 1) := by decide +kernel
theorem dMo_bagOf_81 : decode cMo_bagOf 81 = .ok (.ior, 1) := by decide +kernel
theorem dMo_bagOf_82 : decode cMo_bagOf 82 = .ok (.goto 5, 3) := by decide +kernel
theorem dMo_bagOf_85 : decode cMo_bagOf 85 = .ok (.iload 6, 2) := by decide +kernel
theorem dMo_bagOf_87 : decode cMo_bagOf 87 = .ok (.istore 6, 2) := by decide +kernel
theorem dMo_bagOf_89 : decode cMo_bagOf 89 = .ok (.iinc 7 1, 3) := by decide +kernel
theorem dMo_bagOf_92 : decode cMo_bagOf 92 = .ok (.goto (-68), 3) := by decide +kernel
theorem dMo_bagOf_95 : decode cMo_bagOf 95 = .ok (.iload 6, 2) := by decide +kernel
theorem dMo_bagOf_97 : decode cMo_bagOf 97 = .ok (.iload 4, 2) := by decide +kernel
theorem dMo_bagOf_99 : decode cMo_bagOf 99 = .ok (.if_icmp .eq 7, 3) := by decide +kernel
theorem dMo_bagOf_102 : decode cMo_bagOf 102 = .ok (.iconst 1, 1) := by decide +kernel
theorem dMo_bagOf_103 : decode cMo_bagOf 103 = .ok (.goto 4, 3) := by decide +kernel
theorem dMo_bagOf_106 : decode cMo_bagOf 106 = .ok (.iconst 0, 1) := by decide +kernel
theorem dMo_bagOf_107 : decode cMo_bagOf 107 = .ok (.istore 5, 2) := by decide +kernel
theorem dMo_bagOf_109 : decode cMo_bagOf 109 = .ok (.iload 6, 2) := by decide +kernel
theorem dMo_bagOf_111 : decode cMo_bagOf 111 = .ok (.istore 4, 2) := by decide +kernel
theorem dMo_bagOf_113 : decode cMo_bagOf 113 = .ok (.goto (-101), 3) := by decide +kernel
theorem dMo_bagOf_116 : decode cMo_bagOf 116 = .ok (.iload_n 3, 1) := by decide +kernel
theorem dMo_bagOf_117 : decode cMo_bagOf 117 = .ok (.iload 4, 2) := by decide +kernel
theorem dMo_bagOf_119 : decode cMo_bagOf 119 = .ok (.iload_n 2, 1) := by decide +kernel
theorem dMo_bagOf_120 : decode cMo_bagOf 120 = .ok (.iconst (-1), 1) := by decide +kernel
theorem dMo_bagOf_121 : decode cMo_bagOf 121 = .ok (.ixor, 1) := by decide +kernel
theorem dMo_bagOf_122 : decode cMo_bagOf 122 = .ok (.iand, 1) := by decide +kernel
theorem dMo_bagOf_123 : decode cMo_bagOf 123 = .ok (.ior, 1) := by decide +kernel
theorem dMo_bagOf_124 : decode cMo_bagOf 124 = .ok (.istore_n 3, 1) := by decide +kernel
theorem dMo_bagOf_125 : decode cMo_bagOf 125 = .ok (.iload_n 3, 1) := by decide +kernel
theorem dMo_bagOf_126 : decode cMo_bagOf 126 = .ok (.ireturn, 1) := by decide +kernel
abbrev cMo_weighAll : ByteArray := prog_9_method_22_code
def yMo_weighAll : MethodName := ⟨RMo, "weighAll", "()V"⟩
theorem dMo_weighAll_0 : decode cMo_weighAll 0 = .ok (.iconst 1, 1) := by decide +kernel
theorem dMo_weighAll_1 : decode cMo_weighAll 1 = .ok (.aload_n 0, 1) := by decide +kernel
theorem dMo_weighAll_2 : decode cMo_weighAll 2 = .ok (.getfield 68, 3) := by decide +kernel
theorem dMo_weighAll_5 : decode cMo_weighAll 5 = .ok (.ishl, 1) := by decide +kernel
theorem dMo_weighAll_6 : decode cMo_weighAll 6 = .ok (.iconst 1, 1) := by decide +kernel
theorem dMo_weighAll_7 : decode cMo_weighAll 7 = .ok (.isub, 1) := by decide +kernel
theorem dMo_weighAll_8 : decode cMo_weighAll 8 = .ok (.istore_n 1, 1) := by decide +kernel
theorem dMo_weighAll_9 : decode cMo_weighAll 9 = .ok (.aload_n 0, 1) := by decide +kernel
theorem dMo_weighAll_10 : decode cMo_weighAll 10 = .ok (.getfield 37, 3) := by decide +kernel
theorem dMo_weighAll_13 : decode cMo_weighAll 13 = .ok (.iload_n 1, 1) := by decide +kernel
theorem dMo_weighAll_14 : decode cMo_weighAll 14 = .ok (.iconst (-1), 1) := by decide +kernel
theorem dMo_weighAll_15 : decode cMo_weighAll 15 = .ok (.iastore, 1) := by decide +kernel
theorem dMo_weighAll_16 : decode cMo_weighAll 16 = .ok (.iload_n 1, 1) := by decide +kernel
theorem dMo_weighAll_17 : decode cMo_weighAll 17 = .ok (.iconst 1, 1) := by decide +kernel
theorem dMo_weighAll_18 : decode cMo_weighAll 18 = .ok (.isub, 1) := by decide +kernel
theorem dMo_weighAll_19 : decode cMo_weighAll 19 = .ok (.istore_n 2, 1) := by decide +kernel
theorem dMo_weighAll_20 : decode cMo_weighAll 20 = .ok (.iload_n 2, 1) := by decide +kernel
theorem dMo_weighAll_21 : decode cMo_weighAll 21 = .ok (.ifCond .lt 110, 3) := by decide +kernel
theorem dMo_weighAll_24 : decode cMo_weighAll 24 = .ok (.aload_n 0, 1) := by decide +kernel
theorem dMo_weighAll_25 : decode cMo_weighAll 25 = .ok (.getfield 37, 3) := by decide +kernel
theorem dMo_weighAll_28 : decode cMo_weighAll 28 = .ok (.iload_n 2, 1) := by decide +kernel
theorem dMo_weighAll_29 : decode cMo_weighAll 29 = .ok (.bipush 100, 2) := by decide +kernel
theorem dMo_weighAll_31 : decode cMo_weighAll 31 = .ok (.iastore, 1) := by decide +kernel
theorem dMo_weighAll_32 : decode cMo_weighAll 32 = .ok (.iconst 0, 1) := by decide +kernel
theorem dMo_weighAll_33 : decode cMo_weighAll 33 = .ok (.istore_n 3, 1) := by decide +kernel
theorem dMo_weighAll_34 : decode cMo_weighAll 34 = .ok (.iload_n 3, 1) := by decide +kernel
theorem dMo_weighAll_35 : decode cMo_weighAll 35 = .ok (.aload_n 0, 1) := by decide +kernel
theorem dMo_weighAll_36 : decode cMo_weighAll 36 = .ok (.getfield 68, 3) := by decide +kernel
theorem dMo_weighAll_39 : decode cMo_weighAll 39 = .ok (.if_icmp .ge 86, 3) := by decide +kernel
theorem dMo_weighAll_42 : decode cMo_weighAll 42 = .ok (.iload_n 2, 1) := by decide +kernel
theorem dMo_weighAll_43 : decode cMo_weighAll 43 = .ok (.iload_n 3, 1) := by decide +kernel
theorem dMo_weighAll_44 : decode cMo_weighAll 44 = .ok (.ishr, 1) := by decide +kernel
theorem dMo_weighAll_45 : decode cMo_weighAll 45 = .ok (.iconst 1, 1) := by decide +kernel
theorem dMo_weighAll_46 : decode cMo_weighAll 46 = .ok (.iand, 1) := by decide +kernel
theorem dMo_weighAll_47 : decode cMo_weighAll 47 = .ok (.ifCond .ne 72, 3) := by decide +kernel
theorem dMo_weighAll_50 : decode cMo_weighAll 50 = .ok (.aload_n 0, 1) := by decide +kernel
theorem dMo_weighAll_51 : decode cMo_weighAll 51 = .ok (.iload_n 3, 1) := by decide +kernel
theorem dMo_weighAll_52 : decode cMo_weighAll 52 = .ok (.iload_n 2, 1) := by decide +kernel
theorem dMo_weighAll_53 : decode cMo_weighAll 53 = .ok (.invokevirtual 119, 3) := by decide +kernel
theorem dMo_weighAll_56 : decode cMo_weighAll 56 = .ok (.invokestatic 86, 3) := by decide +kernel
theorem dMo_weighAll_59 : decode cMo_weighAll 59 = .ok (.iconst 1, 1) := by decide +kernel
theorem dMo_weighAll_60 : decode cMo_weighAll 60 = .ok (.isub, 1) := by decide +kernel
theorem dMo_weighAll_61 : decode cMo_weighAll 61 = .ok (.istore 4, 2) := by decide +kernel
theorem dMo_weighAll_63 : decode cMo_weighAll 63 = .ok (.aload_n 0, 1) := by decide +kernel
theorem dMo_weighAll_64 : decode cMo_weighAll 64 = .ok (.getfield 37, 3) := by decide +kernel
theorem dMo_weighAll_67 : decode cMo_weighAll 67 = .ok (.iload_n 2, 1) := by decide +kernel
theorem dMo_weighAll_68 : decode cMo_weighAll 68 = .ok (.iconst 1, 1) := by decide +kernel
theorem dMo_weighAll_69 : decode cMo_weighAll 69 = .ok (.iload_n 3, 1) := by decide +kernel
theorem dMo_weighAll_70 : decode cMo_weighAll 70 = .ok (.ishl, 1) := by decide +kernel
theorem dMo_weighAll_71 : decode cMo_weighAll 71 = .ok (.ior, 1) := by decide +kernel
theorem dMo_weighAll_72 : decode cMo_weighAll 72 = .ok (.iaload, 1) := by decide +kernel
theorem dMo_weighAll_73 : decode cMo_weighAll 73 = .ok (.istore 5, 2) := by decide +kernel
theorem dMo_weighAll_75 : decode cMo_weighAll 75 = .ok (.iload 5, 2) := by decide +kernel
theorem dMo_weighAll_77 : decode cMo_weighAll 77 = .ok (.iload 4, 2) := by decide +kernel
theorem dMo_weighAll_79 : decode cMo_weighAll 79 = .ok (.if_icmp .le 8, 3) := by decide +kernel
theorem dMo_weighAll_82 : decode cMo_weighAll 82 = .ok (.iload 5, 2) := by decide +kernel
theorem dMo_weighAll_84 : decode cMo_weighAll 84 = .ok (.goto 5, 3) := by decide +kernel
theorem dMo_weighAll_87 : decode cMo_weighAll 87 = .ok (.iload 4, 2) := by decide +kernel
theorem dMo_weighAll_89 : decode cMo_weighAll 89 = .ok (.istore 4, 2) := by decide +kernel
theorem dMo_weighAll_91 : decode cMo_weighAll 91 = .ok (.aload_n 0, 1) := by decide +kernel
theorem dMo_weighAll_92 : decode cMo_weighAll 92 = .ok (.getfield 37, 3) := by decide +kernel
theorem dMo_weighAll_95 : decode cMo_weighAll 95 = .ok (.iload_n 2, 1) := by decide +kernel
theorem dMo_weighAll_96 : decode cMo_weighAll 96 = .ok (.iload 4, 2) := by decide +kernel
theorem dMo_weighAll_98 : decode cMo_weighAll 98 = .ok (.aload_n 0, 1) := by decide +kernel
theorem dMo_weighAll_99 : decode cMo_weighAll 99 = .ok (.getfield 37, 3) := by decide +kernel
theorem dMo_weighAll_102 : decode cMo_weighAll 102 = .ok (.iload_n 2, 1) := by decide +kernel
theorem dMo_weighAll_103 : decode cMo_weighAll 103 = .ok (.iaload, 1) := by decide +kernel
theorem dMo_weighAll_104 : decode cMo_weighAll 104 = .ok (.if_icmp .ge 8, 3) := by decide +kernel
theorem dMo_weighAll_107 : decode cMo_weighAll 107 = .ok (.iload 4, 2) := by decide +kernel
theorem dMo_weighAll_109 : decode cMo_weighAll 109 = .ok (.goto 9, 3) := by decide +kernel
theorem dMo_weighAll_112 : decode cMo_weighAll 112 = .ok (.aload_n 0, 1) := by decide +kernel
theorem dMo_weighAll_113 : decode cMo_weighAll 113 = .ok (.getfield 37, 3) := by decide +kernel
theorem dMo_weighAll_116 : decode cMo_weighAll 116 = .ok (.iload_n 2, 1) := by decide +kernel
theorem dMo_weighAll_117 : decode cMo_weighAll 117 = .ok (.iaload, 1) := by decide +kernel
theorem dMo_weighAll_118 : decode cMo_weighAll 118 = .ok (.iastore, 1) := by decide +kernel
theorem dMo_weighAll_119 : decode cMo_weighAll 119 = .ok (.iinc 3 1, 3) := by decide +kernel
theorem dMo_weighAll_122 : decode cMo_weighAll 122 = .ok (.goto (-88), 3) := by decide +kernel
theorem dMo_weighAll_125 : decode cMo_weighAll 125 = .ok (.iinc 2 (-1), 3) := by decide +kernel
theorem dMo_weighAll_128 : decode cMo_weighAll 128 = .ok (.goto (-108), 3) := by decide +kernel
theorem dMo_weighAll_131 : decode cMo_weighAll 131 = .ok (.aload_n 0, 1) := by decide +kernel
theorem dMo_weighAll_132 : decode cMo_weighAll 132 = .ok (.getfield 40, 3) := by decide +kernel
theorem dMo_weighAll_135 : decode cMo_weighAll 135 = .ok (.iload_n 1, 1) := by decide +kernel
theorem dMo_weighAll_136 : decode cMo_weighAll 136 = .ok (.lconst 0, 1) := by decide +kernel
theorem dMo_weighAll_137 : decode cMo_weighAll 137 = .ok (.lastore, 1) := by decide +kernel
theorem dMo_weighAll_138 : decode cMo_weighAll 138 = .ok (.iload_n 1, 1) := by decide +kernel
theorem dMo_weighAll_139 : decode cMo_weighAll 139 = .ok (.iconst 1, 1) := by decide +kernel
theorem dMo_weighAll_140 : decode cMo_weighAll 140 = .ok (.isub, 1) := by decide +kernel
theorem dMo_weighAll_141 : decode cMo_weighAll 141 = .ok (.istore_n 2, 1) := by decide +kernel
theorem dMo_weighAll_142 : decode cMo_weighAll 142 = .ok (.iload_n 2, 1) := by decide +kernel
theorem dMo_weighAll_143 : decode cMo_weighAll 143 = .ok (.ifCond .lt 97, 3) := by decide +kernel
theorem dMo_weighAll_146 : decode cMo_weighAll 146 = .ok (.aload_n 0, 1) := by decide +kernel
theorem dMo_weighAll_147 : decode cMo_weighAll 147 = .ok (.getfield 40, 3) := by decide +kernel
theorem dMo_weighAll_150 : decode cMo_weighAll 150 = .ok (.iload_n 2, 1) := by decide +kernel
theorem dMo_weighAll_151 : decode cMo_weighAll 151 = .ok (.ldc2_w 107, 3) := by decide +kernel
theorem dMo_weighAll_154 : decode cMo_weighAll 154 = .ok (.lastore, 1) := by decide +kernel
theorem dMo_weighAll_155 : decode cMo_weighAll 155 = .ok (.iconst 0, 1) := by decide +kernel
theorem dMo_weighAll_156 : decode cMo_weighAll 156 = .ok (.istore_n 3, 1) := by decide +kernel
theorem dMo_weighAll_157 : decode cMo_weighAll 157 = .ok (.iload_n 3, 1) := by decide +kernel
theorem dMo_weighAll_158 : decode cMo_weighAll 158 = .ok (.aload_n 0, 1) := by decide +kernel
theorem dMo_weighAll_159 : decode cMo_weighAll 159 = .ok (.getfield 68, 3) := by decide +kernel
theorem dMo_weighAll_162 : decode cMo_weighAll 162 = .ok (.if_icmp .ge 72, 3) := by decide +kernel
theorem dMo_weighAll_165 : decode cMo_weighAll 165 = .ok (.iload_n 2, 1) := by decide +kernel
theorem dMo_weighAll_166 : decode cMo_weighAll 166 = .ok (.iload_n 3, 1) := by decide +kernel
theorem dMo_weighAll_167 : decode cMo_weighAll 167 = .ok (.ishr, 1) := by decide +kernel
theorem dMo_weighAll_168 : decode cMo_weighAll 168 = .ok (.iconst 1, 1) := by decide +kernel
theorem dMo_weighAll_169 : decode cMo_weighAll 169 = .ok (.iand, 1) := by decide +kernel
theorem dMo_weighAll_170 : decode cMo_weighAll 170 = .ok (.ifCond .ne 58, 3) := by decide +kernel
theorem dMo_weighAll_173 : decode cMo_weighAll 173 = .ok (.aload_n 0, 1) := by decide +kernel
theorem dMo_weighAll_174 : decode cMo_weighAll 174 = .ok (.iload_n 3, 1) := by decide +kernel
theorem dMo_weighAll_175 : decode cMo_weighAll 175 = .ok (.iload_n 2, 1) := by decide +kernel
theorem dMo_weighAll_176 : decode cMo_weighAll 176 = .ok (.invokevirtual 123, 3) := by decide +kernel
theorem dMo_weighAll_179 : decode cMo_weighAll 179 = .ok (.lstore 4, 2) := by decide +kernel
theorem dMo_weighAll_181 : decode cMo_weighAll 181 = .ok (.aload_n 0, 1) := by decide +kernel
theorem dMo_weighAll_182 : decode cMo_weighAll 182 = .ok (.getfield 40, 3) := by decide +kernel
theorem dMo_weighAll_185 : decode cMo_weighAll 185 = .ok (.iload_n 2, 1) := by decide +kernel
theorem dMo_weighAll_186 : decode cMo_weighAll 186 = .ok (.lload 4, 2) := by decide +kernel
theorem dMo_weighAll_188 : decode cMo_weighAll 188 = .ok (.lconst 0, 1) := by decide +kernel
theorem dMo_weighAll_189 : decode cMo_weighAll 189 = .ok (.lcmp, 1) := by decide +kernel
theorem dMo_weighAll_190 : decode cMo_weighAll 190 = .ok (.ifCond .lt 31, 3) := by decide +kernel
theorem dMo_weighAll_193 : decode cMo_weighAll 193 = .ok (.aload_n 0, 1) := by decide +kernel
theorem dMo_weighAll_194 : decode cMo_weighAll 194 = .ok (.getfield 40, 3) := by decide +kernel
theorem dMo_weighAll_197 : decode cMo_weighAll 197 = .ok (.iload_n 2, 1) := by decide +kernel
theorem dMo_weighAll_198 : decode cMo_weighAll 198 = .ok (.laload, 1) := by decide +kernel
theorem dMo_weighAll_199 : decode cMo_weighAll 199 = .ok (.lconst 0, 1) := by decide +kernel
theorem dMo_weighAll_200 : decode cMo_weighAll 200 = .ok (.lcmp, 1) := by decide +kernel
theorem dMo_weighAll_201 : decode cMo_weighAll 201 = .ok (.ifCond .lt 15, 3) := by decide +kernel
theorem dMo_weighAll_204 : decode cMo_weighAll 204 = .ok (.lload 4, 2) := by decide +kernel
theorem dMo_weighAll_206 : decode cMo_weighAll 206 = .ok (.aload_n 0, 1) := by decide +kernel
theorem dMo_weighAll_207 : decode cMo_weighAll 207 = .ok (.getfield 40, 3) := by decide +kernel
theorem dMo_weighAll_210 : decode cMo_weighAll 210 = .ok (.iload_n 2, 1) := by decide +kernel
theorem dMo_weighAll_211 : decode cMo_weighAll 211 = .ok (.laload, 1) := by decide +kernel
theorem dMo_weighAll_212 : decode cMo_weighAll 212 = .ok (.lcmp, 1) := by decide +kernel
theorem dMo_weighAll_213 : decode cMo_weighAll 213 = .ok (.ifCond .ge 8, 3) := by decide +kernel
theorem dMo_weighAll_216 : decode cMo_weighAll 216 = .ok (.lload 4, 2) := by decide +kernel
theorem dMo_weighAll_218 : decode cMo_weighAll 218 = .ok (.goto 9, 3) := by decide +kernel
theorem dMo_weighAll_221 : decode cMo_weighAll 221 = .ok (.aload_n 0, 1) := by decide +kernel
theorem dMo_weighAll_222 : decode cMo_weighAll 222 = .ok (.getfield 40, 3) := by decide +kernel
theorem dMo_weighAll_225 : decode cMo_weighAll 225 = .ok (.iload_n 2, 1) := by decide +kernel
theorem dMo_weighAll_226 : decode cMo_weighAll 226 = .ok (.laload, 1) := by decide +kernel
theorem dMo_weighAll_227 : decode cMo_weighAll 227 = .ok (.lastore, 1) := by decide +kernel
theorem dMo_weighAll_228 : decode cMo_weighAll 228 = .ok (.iinc 3 1, 3) := by decide +kernel
theorem dMo_weighAll_231 : decode cMo_weighAll 231 = .ok (.goto (-74), 3) := by decide +kernel
theorem dMo_weighAll_234 : decode cMo_weighAll 234 = .ok (.iinc 2 (-1), 3) := by decide +kernel
theorem dMo_weighAll_237 : decode cMo_weighAll 237 = .ok (.goto (-95), 3) := by decide +kernel
theorem dMo_weighAll_240 : decode cMo_weighAll 240 = .ok (.return_, 1) := by decide +kernel
abbrev cMo_price : ByteArray := prog_9_method_23_code
def yMo_price : MethodName := ⟨RMo, "price", "(II)J"⟩
theorem dMo_price_0 : decode cMo_price 0 = .ok (.aload_n 0, 1) := by decide +kernel
theorem dMo_price_1 : decode cMo_price 1 = .ok (.iload_n 1, 1) := by decide +kernel
theorem dMo_price_2 : decode cMo_price 2 = .ok (.iload_n 2, 1) := by decide +kernel
theorem dMo_price_3 : decode cMo_price 3 = .ok (.invokevirtual 119, 3) := by decide +kernel
theorem dMo_price_6 : decode cMo_price 6 = .ok (.istore_n 3, 1) := by decide +kernel
theorem dMo_price_7 : decode cMo_price 7 = .ok (.aload_n 0, 1) := by decide +kernel
theorem dMo_price_8 : decode cMo_price 8 = .ok (.getfield 40, 3) := by decide +kernel
theorem dMo_price_11 : decode cMo_price 11 = .ok (.iload_n 2, 1) := by decide +kernel
theorem dMo_price_12 : decode cMo_price 12 = .ok (.iconst 1, 1) := by decide +kernel
theorem dMo_price_13 : decode cMo_price 13 = .ok (.iload_n 1, 1) := by decide +kernel
theorem dMo_price_14 : decode cMo_price 14 = .ok (.ishl, 1) := by decide +kernel
theorem dMo_price_15 : decode cMo_price 15 = .ok (.ior, 1) := by decide +kernel
theorem dMo_price_16 : decode cMo_price 16 = .ok (.laload, 1) := by decide +kernel
theorem dMo_price_17 : decode cMo_price 17 = .ok (.lstore 4, 2) := by decide +kernel
theorem dMo_price_19 : decode cMo_price 19 = .ok (.iload_n 3, 1) := by decide +kernel
theorem dMo_price_20 : decode cMo_price 20 = .ok (.invokestatic 86, 3) := by decide +kernel
theorem dMo_price_23 : decode cMo_price 23 = .ok (.iconst 1, 1) := by decide +kernel
theorem dMo_price_24 : decode cMo_price 24 = .ok (.isub, 1) := by decide +kernel
theorem dMo_price_25 : decode cMo_price 25 = .ok (.aload_n 0, 1) := by decide +kernel
theorem dMo_price_26 : decode cMo_price 26 = .ok (.getfield 37, 3) := by decide +kernel
theorem dMo_price_29 : decode cMo_price 29 = .ok (.iconst 0, 1) := by decide +kernel
theorem dMo_price_30 : decode cMo_price 30 = .ok (.iaload, 1) := by decide +kernel
theorem dMo_price_31 : decode cMo_price 31 = .ok (.if_icmp .gt 10, 3) := by decide +kernel
theorem dMo_price_34 : decode cMo_price 34 = .ok (.lload 4, 2) := by decide +kernel
theorem dMo_price_36 : decode cMo_price 36 = .ok (.lconst 0, 1) := by decide +kernel
theorem dMo_price_37 : decode cMo_price 37 = .ok (.lcmp, 1) := by decide +kernel
theorem dMo_price_38 : decode cMo_price 38 = .ok (.ifCond .ge 9, 3) := by decide +kernel
theorem dMo_price_41 : decode cMo_price 41 = .ok (.ldc2_w 107, 3) := by decide +kernel
theorem dMo_price_44 : decode cMo_price 44 = .ok (.goto 12, 3) := by decide +kernel
theorem dMo_price_47 : decode cMo_price 47 = .ok (.aload_n 0, 1) := by decide +kernel
theorem dMo_price_48 : decode cMo_price 48 = .ok (.iload_n 3, 1) := by decide +kernel
theorem dMo_price_49 : decode cMo_price 49 = .ok (.invokevirtual 97, 3) := by decide +kernel
theorem dMo_price_52 : decode cMo_price 52 = .ok (.i2l, 1) := by decide +kernel
theorem dMo_price_53 : decode cMo_price 53 = .ok (.lload 4, 2) := by decide +kernel
theorem dMo_price_55 : decode cMo_price 55 = .ok (.ladd, 1) := by decide +kernel
theorem dMo_price_56 : decode cMo_price 56 = .ok (.lreturn, 1) := by decide +kernel
abbrev cMo_work : ByteArray := prog_9_method_24_code
def yMo_work : MethodName := ⟨RMo, "work", "(I)V"⟩
theorem dMo_work_0 : decode cMo_work 0 = .ok (.aload_n 0, 1) := by decide +kernel
theorem dMo_work_1 : decode cMo_work 1 = .ok (.iload_n 1, 1) := by decide +kernel
theorem dMo_work_2 : decode cMo_work 2 = .ok (.putfield 127, 3) := by decide +kernel
theorem dMo_work_5 : decode cMo_work 5 = .ok (.aload_n 0, 1) := by decide +kernel
theorem dMo_work_6 : decode cMo_work 6 = .ok (.iconst 0, 1) := by decide +kernel
theorem dMo_work_7 : decode cMo_work 7 = .ok (.putfield 61, 3) := by decide +kernel
theorem dMo_work_10 : decode cMo_work 10 = .ok (.aload_n 0, 1) := by decide +kernel
theorem dMo_work_11 : decode cMo_work 11 = .ok (.iconst 0, 1) := by decide +kernel
theorem dMo_work_12 : decode cMo_work 12 = .ok (.putfield 113, 3) := by decide +kernel
theorem dMo_work_15 : decode cMo_work 15 = .ok (.aload_n 0, 1) := by decide +kernel
theorem dMo_work_16 : decode cMo_work 16 = .ok (.invokevirtual 130, 3) := by decide +kernel
theorem dMo_work_19 : decode cMo_work 19 = .ok (.iload_n 1, 1) := by decide +kernel
theorem dMo_work_20 : decode cMo_work 20 = .ok (.iconst 5, 1) := by decide +kernel
theorem dMo_work_21 : decode cMo_work 21 = .ok (.if_icmp .ne 7, 3) := by decide +kernel
theorem dMo_work_24 : decode cMo_work 24 = .ok (.aload_n 0, 1) := by decide +kernel
theorem dMo_work_25 : decode cMo_work 25 = .ok (.invokevirtual 133, 3) := by decide +kernel
theorem dMo_work_28 : decode cMo_work 28 = .ok (.aload_n 0, 1) := by decide +kernel
theorem dMo_work_29 : decode cMo_work 29 = .ok (.getfield 28, 3) := by decide +kernel
theorem dMo_work_32 : decode cMo_work 32 = .ok (.astore_n 2, 1) := by decide +kernel
theorem dMo_work_33 : decode cMo_work 33 = .ok (.iconst 0, 1) := by decide +kernel
theorem dMo_work_34 : decode cMo_work 34 = .ok (.istore_n 3, 1) := by decide +kernel
theorem dMo_work_35 : decode cMo_work 35 = .ok (.iconst 0, 1) := by decide +kernel
theorem dMo_work_36 : decode cMo_work 36 = .ok (.istore 4, 2) := by decide +kernel
theorem dMo_work_38 : decode cMo_work 38 = .ok (.iload 4, 2) := by decide +kernel
theorem dMo_work_40 : decode cMo_work 40 = .ok (.aload_n 0, 1) := by decide +kernel
theorem dMo_work_41 : decode cMo_work 41 = .ok (.getfield 68, 3) := by decide +kernel
theorem dMo_work_44 : decode cMo_work 44 = .ok (.if_icmp .ge 122, 3) := by decide +kernel
theorem dMo_work_47 : decode cMo_work 47 = .ok (.iload 4, 2) := by decide +kernel
theorem dMo_work_49 : decode cMo_work 49 = .ok (.istore 5, 2) := by decide +kernel
theorem dMo_work_51 : decode cMo_work 51 = .ok (.iload_n 1, 1) := by decide +kernel
theorem dMo_work_52 : decode cMo_work 52 = .ok (.iconst 1, 1) := by decide +kernel
theorem dMo_work_53 : decode cMo_work 53 = .ok (.if_icmp .ne 15, 3) := by decide +kernel
theorem dMo_work_56 : decode cMo_work 56 = .ok (.aload_n 0, 1) := by decide +kernel
theorem dMo_work_57 : decode cMo_work 57 = .ok (.getfield 16, 3) := by decide +kernel
theorem dMo_work_60 : decode cMo_work 60 = .ok (.iload 4, 2) := by decide +kernel
theorem dMo_work_62 : decode cMo_work 62 = .ok (.iaload, 1) := by decide +kernel
theorem dMo_work_63 : decode cMo_work 63 = .ok (.istore 5, 2) := by decide +kernel
theorem dMo_work_65 : decode cMo_work 65 = .ok (.goto 69, 3) := by decide +kernel
theorem dMo_work_68 : decode cMo_work 68 = .ok (.iload_n 1, 1) := by decide +kernel
theorem dMo_work_69 : decode cMo_work 69 = .ok (.iconst 1, 1) := by decide +kernel
theorem dMo_work_70 : decode cMo_work 70 = .ok (.if_icmp .le 19, 3) := by decide +kernel
theorem dMo_work_73 : decode cMo_work 73 = .ok (.iload_n 1, 1) := by decide +kernel
theorem dMo_work_74 : decode cMo_work 74 = .ok (.iconst 5, 1) := by decide +kernel
theorem dMo_work_75 : decode cMo_work 75 = .ok (.if_icmp .ge 14, 3) := by decide +kernel
theorem dMo_work_78 : decode cMo_work 78 = .ok (.aload_n 0, 1) := by decide +kernel
theorem dMo_work_79 : decode cMo_work 79 = .ok (.iload_n 1, 1) := by decide +kernel
theorem dMo_work_80 : decode cMo_work 80 = .ok (.iload_n 3, 1) := by decide +kernel
theorem dMo_work_81 : decode cMo_work 81 = .ok (.invokevirtual 136, 3) := by decide +kernel
theorem dMo_work_84 : decode cMo_work 84 = .ok (.istore 5, 2) := by decide +kernel
theorem dMo_work_86 : decode cMo_work 86 = .ok (.goto 48, 3) := by decide +kernel
theorem dMo_work_89 : decode cMo_work 89 = .ok (.iload_n 1, 1) := by decide +kernel
theorem dMo_work_90 : decode cMo_work 90 = .ok (.iconst 5, 1) := by decide +kernel
theorem dMo_work_91 : decode cMo_work 91 = .ok (.if_icmp .ne 43, 3) := by decide +kernel
theorem dMo_work_94 : decode cMo_work 94 = .ok (.iconst 0, 1) := by decide +kernel
theorem dMo_work_95 : decode cMo_work 95 = .ok (.istore 5, 2) := by decide +kernel
theorem dMo_work_97 : decode cMo_work 97 = .ok (.aload_n 0, 1) := by decide +kernel
theorem dMo_work_98 : decode cMo_work 98 = .ok (.invokevirtual 130, 3) := by decide +kernel
theorem dMo_work_101 : decode cMo_work 101 = .ok (.iload_n 3, 1) := by decide +kernel
theorem dMo_work_102 : decode cMo_work 102 = .ok (.iload 5, 2) := by decide +kernel
theorem dMo_work_104 : decode cMo_work 104 = .ok (.ishr, 1) := by decide +kernel
theorem dMo_work_105 : decode cMo_work 105 = .ok (.iconst 1, 1) := by decide +kernel
theorem dMo_work_106 : decode cMo_work 106 = .ok (.iand, 1) := by decide +kernel
theorem dMo_work_107 : decode cMo_work 107 = .ok (.iconst 1, 1) := by decide +kernel
theorem dMo_work_108 : decode cMo_work 108 = .ok (.if_icmp .eq 20, 3) := by decide +kernel
theorem dMo_work_111 : decode cMo_work 111 = .ok (.aload_n 0, 1) := by decide +kernel
theorem dMo_work_112 : decode cMo_work 112 = .ok (.iload 5, 2) := by decide +kernel
theorem dMo_work_114 : decode cMo_work 114 = .ok (.iload_n 3, 1) := by decide +kernel
theorem dMo_work_115 : decode cMo_work 115 = .ok (.invokevirtual 123, 3) := by decide +kernel
theorem dMo_work_118 : decode cMo_work 118 = .ok (.aload_n 0, 1) := by decide +kernel
theorem dMo_work_119 : decode cMo_work 119 = .ok (.getfield 40, 3) := by decide +kernel
theorem dMo_work_122 : decode cMo_work 122 = .ok (.iload_n 3, 1) := by decide +kernel
theorem dMo_work_123 : decode cMo_work 123 = .ok (.laload, 1) := by decide +kernel
theorem dMo_work_124 : decode cMo_work 124 = .ok (.lcmp, 1) := by decide +kernel
theorem dMo_work_125 : decode cMo_work 125 = .ok (.ifCond .eq 9, 3) := by decide +kernel
theorem dMo_work_128 : decode cMo_work 128 = .ok (.iinc 5 1, 3) := by decide +kernel
theorem dMo_work_131 : decode cMo_work 131 = .ok (.goto (-30), 3) := by decide +kernel
theorem dMo_work_134 : decode cMo_work 134 = .ok (.aload_n 2, 1) := by decide +kernel
theorem dMo_work_135 : decode cMo_work 135 = .ok (.iload 4, 2) := by decide +kernel
theorem dMo_work_137 : decode cMo_work 137 = .ok (.iload 5, 2) := by decide +kernel
theorem dMo_work_139 : decode cMo_work 139 = .ok (.iastore, 1) := by decide +kernel
theorem dMo_work_140 : decode cMo_work 140 = .ok (.iload_n 3, 1) := by decide +kernel
theorem dMo_work_141 : decode cMo_work 141 = .ok (.iconst 1, 1) := by decide +kernel
theorem dMo_work_142 : decode cMo_work 142 = .ok (.iload 5, 2) := by decide +kernel
theorem dMo_work_144 : decode cMo_work 144 = .ok (.ishl, 1) := by decide +kernel
theorem dMo_work_145 : decode cMo_work 145 = .ok (.ior, 1) := by decide +kernel
theorem dMo_work_146 : decode cMo_work 146 = .ok (.istore_n 3, 1) := by decide +kernel
theorem dMo_work_147 : decode cMo_work 147 = .ok (.iload_n 1, 1) := by decide +kernel
theorem dMo_work_148 : decode cMo_work 148 = .ok (.iconst 5, 1) := by decide +kernel
theorem dMo_work_149 : decode cMo_work 149 = .ok (.if_icmp .ge 11, 3) := by decide +kernel
theorem dMo_work_152 : decode cMo_work 152 = .ok (.aload_n 0, 1) := by decide +kernel
theorem dMo_work_153 : decode cMo_work 153 = .ok (.iload 5, 2) := by decide +kernel
theorem dMo_work_155 : decode cMo_work 155 = .ok (.iload 4, 2) := by decide +kernel
theorem dMo_work_157 : decode cMo_work 157 = .ok (.invokevirtual 139, 3) := by decide +kernel
theorem dMo_work_160 : decode cMo_work 160 = .ok (.iinc 4 1, 3) := by decide +kernel
theorem dMo_work_163 : decode cMo_work 163 = .ok (.goto (-125), 3) := by decide +kernel
theorem dMo_work_166 : decode cMo_work 166 = .ok (.iload_n 1, 1) := by decide +kernel
theorem dMo_work_167 : decode cMo_work 167 = .ok (.iconst 5, 1) := by decide +kernel
theorem dMo_work_168 : decode cMo_work 168 = .ok (.if_icmp .ne 35, 3) := by decide +kernel
theorem dMo_work_171 : decode cMo_work 171 = .ok (.aload_n 0, 1) := by decide +kernel
theorem dMo_work_172 : decode cMo_work 172 = .ok (.invokevirtual 130, 3) := by decide +kernel
theorem dMo_work_175 : decode cMo_work 175 = .ok (.iconst 0, 1) := by decide +kernel
theorem dMo_work_176 : decode cMo_work 176 = .ok (.istore 4, 2) := by decide +kernel
theorem dMo_work_178 : decode cMo_work 178 = .ok (.iload 4, 2) := by decide +kernel
theorem dMo_work_180 : decode cMo_work 180 = .ok (.aload_n 0, 1) := by decide +kernel
theorem dMo_work_181 : decode cMo_work 181 = .ok (.getfield 68, 3) := by decide +kernel
theorem dMo_work_184 : decode cMo_work 184 = .ok (.if_icmp .ge 19, 3) := by decide +kernel
theorem dMo_work_187 : decode cMo_work 187 = .ok (.aload_n 0, 1) := by decide +kernel
theorem dMo_work_188 : decode cMo_work 188 = .ok (.aload_n 2, 1) := by decide +kernel
theorem dMo_work_189 : decode cMo_work 189 = .ok (.iload 4, 2) := by decide +kernel
theorem dMo_work_191 : decode cMo_work 191 = .ok (.iaload, 1) := by decide +kernel
theorem dMo_work_192 : decode cMo_work 192 = .ok (.iload 4, 2) := by decide +kernel
theorem dMo_work_194 : decode cMo_work 194 = .ok (.invokevirtual 139, 3) := by decide +kernel
theorem dMo_work_197 : decode cMo_work 197 = .ok (.iinc 4 1, 3) := by decide +kernel
theorem dMo_work_200 : decode cMo_work 200 = .ok (.goto (-22), 3) := by decide +kernel
theorem dMo_work_203 : decode cMo_work 203 = .ok (.return_, 1) := by decide +kernel
abbrev cMo_refresh : ByteArray := prog_9_method_25_code
def yMo_refresh : MethodName := ⟨RMo, "refresh", "()V"⟩
theorem dMo_refresh_0 : decode cMo_refresh 0 = .ok (.aload_n 0, 1) := by decide +kernel
theorem dMo_refresh_1 : decode cMo_refresh 1 = .ok (.getfield 61, 3) := by decide +kernel
theorem dMo_refresh_4 : decode cMo_refresh 4 = .ok (.ifCond .eq 8, 3) := by decide +kernel
theorem dMo_refresh_7 : decode cMo_refresh 7 = .ok (.aload_n 0, 1) := by decide +kernel
theorem dMo_refresh_8 : decode cMo_refresh 8 = .ok (.iconst 0, 1) := by decide +kernel
theorem dMo_refresh_9 : decode cMo_refresh 9 = .ok (.invokevirtual 143, 3) := by decide +kernel
theorem dMo_refresh_12 : decode cMo_refresh 12 = .ok (.return_, 1) := by decide +kernel
abbrev cMo_width : ByteArray := prog_9_method_26_code
def yMo_width : MethodName := ⟨RMo, "width", "()I"⟩
theorem dMo_width_0 : decode cMo_width 0 = .ok (.iconst (-1), 1) := by decide +kernel
theorem dMo_width_1 : decode cMo_width 1 = .ok (.istore_n 1, 1) := by decide +kernel
theorem dMo_width_2 : decode cMo_width 2 = .ok (.iconst 0, 1) := by decide +kernel
theorem dMo_width_3 : decode cMo_width 3 = .ok (.istore_n 2, 1) := by decide +kernel
theorem dMo_width_4 : decode cMo_width 4 = .ok (.iload_n 2, 1) := by decide +kernel
theorem dMo_width_5 : decode cMo_width 5 = .ok (.aload_n 0, 1) := by decide +kernel
theorem dMo_width_6 : decode cMo_width 6 = .ok (.getfield 68, 3) := by decide +kernel
theorem dMo_width_9 : decode cMo_width 9 = .ok (.if_icmp .ge 40, 3) := by decide +kernel
theorem dMo_width_12 : decode cMo_width 12 = .ok (.aload_n 0, 1) := by decide +kernel
theorem dMo_width_13 : decode cMo_width 13 = .ok (.getfield 31, 3) := by decide +kernel
theorem dMo_width_16 : decode cMo_width 16 = .ok (.iload_n 2, 1) := by decide +kernel
theorem dMo_width_17 : decode cMo_width 17 = .ok (.iaload, 1) := by decide +kernel
theorem dMo_width_18 : decode cMo_width 18 = .ok (.invokestatic 86, 3) := by decide +kernel
theorem dMo_width_21 : decode cMo_width 21 = .ok (.iconst 1, 1) := by decide +kernel
theorem dMo_width_22 : decode cMo_width 22 = .ok (.isub, 1) := by decide +kernel
theorem dMo_width_23 : decode cMo_width 23 = .ok (.iload_n 1, 1) := by decide +kernel
theorem dMo_width_24 : decode cMo_width 24 = .ok (.if_icmp .le 17, 3) := by decide +kernel
theorem dMo_width_27 : decode cMo_width 27 = .ok (.aload_n 0, 1) := by decide +kernel
theorem dMo_width_28 : decode cMo_width 28 = .ok (.getfield 31, 3) := by decide +kernel
theorem dMo_width_31 : decode cMo_width 31 = .ok (.iload_n 2, 1) := by decide +kernel
theorem dMo_width_32 : decode cMo_width 32 = .ok (.iaload, 1) := by decide +kernel
theorem dMo_width_33 : decode cMo_width 33 = .ok (.invokestatic 86, 3) := by decide +kernel
theorem dMo_width_36 : decode cMo_width 36 = .ok (.iconst 1, 1) := by decide +kernel
theorem dMo_width_37 : decode cMo_width 37 = .ok (.isub, 1) := by decide +kernel
theorem dMo_width_38 : decode cMo_width 38 = .ok (.goto 4, 3) := by decide +kernel
theorem dMo_width_41 : decode cMo_width 41 = .ok (.iload_n 1, 1) := by decide +kernel
theorem dMo_width_42 : decode cMo_width 42 = .ok (.istore_n 1, 1) := by decide +kernel
theorem dMo_width_43 : decode cMo_width 43 = .ok (.iinc 2 1, 3) := by decide +kernel
theorem dMo_width_46 : decode cMo_width 46 = .ok (.goto (-42), 3) := by decide +kernel
theorem dMo_width_49 : decode cMo_width 49 = .ok (.iload_n 1, 1) := by decide +kernel
theorem dMo_width_50 : decode cMo_width 50 = .ok (.ireturn, 1) := by decide +kernel
abbrev cMo_order : ByteArray := prog_9_method_27_code
def yMo_order : MethodName := ⟨RMo, "order", "(I)I"⟩
theorem dMo_order_0 : decode cMo_order 0 = .ok (.aload_n 0, 1) := by decide +kernel
theorem dMo_order_1 : decode cMo_order 1 = .ok (.iconst 0, 1) := by decide +kernel
theorem dMo_order_2 : decode cMo_order 2 = .ok (.putfield 65, 3) := by decide +kernel
theorem dMo_order_5 : decode cMo_order 5 = .ok (.iload_n 1, 1) := by decide +kernel
theorem dMo_order_6 : decode cMo_order 6 = .ok (.i2l, 1) := by decide +kernel
theorem dMo_order_7 : decode cMo_order 7 = .ok (.lconst 0, 1) := by decide +kernel
theorem dMo_order_8 : decode cMo_order 8 = .ok (.ldc2_w 147, 3) := by decide +kernel
theorem dMo_order_11 : decode cMo_order 11 = .ok (.invokestatic 71, 3) := by decide +kernel
theorem dMo_order_14 : decode cMo_order 14 = .ok (.ifCond .ne 6, 3) := by decide +kernel
theorem dMo_order_17 : decode cMo_order 17 = .ok (.bipush (-2), 2) := by decide +kernel
theorem dMo_order_19 : decode cMo_order 19 = .ok (.ireturn, 1) := by decide +kernel
theorem dMo_order_20 : decode cMo_order 20 = .ok (.iload_n 1, 1) := by decide +kernel
theorem dMo_order_21 : decode cMo_order 21 = .ok (.iconst 1, 1) := by decide +kernel
theorem dMo_order_22 : decode cMo_order 22 = .ok (.if_icmp .ne 64, 3) := by decide +kernel
theorem dMo_order_25 : decode cMo_order 25 = .ok (.iconst 0, 1) := by decide +kernel
theorem dMo_order_26 : decode cMo_order 26 = .ok (.istore_n 2, 1) := by decide +kernel
theorem dMo_order_27 : decode cMo_order 27 = .ok (.iconst 0, 1) := by decide +kernel
theorem dMo_order_28 : decode cMo_order 28 = .ok (.istore_n 3, 1) := by decide +kernel
theorem dMo_order_29 : decode cMo_order 29 = .ok (.iload_n 3, 1) := by decide +kernel
theorem dMo_order_30 : decode cMo_order 30 = .ok (.aload_n 0, 1) := by decide +kernel
theorem dMo_order_31 : decode cMo_order 31 = .ok (.getfield 68, 3) := by decide +kernel
theorem dMo_order_34 : decode cMo_order 34 = .ok (.if_icmp .ge 37, 3) := by decide +kernel
theorem dMo_order_37 : decode cMo_order 37 = .ok (.aload_n 0, 1) := by decide +kernel
theorem dMo_order_38 : decode cMo_order 38 = .ok (.aload_n 0, 1) := by decide +kernel
theorem dMo_order_39 : decode cMo_order 39 = .ok (.getfield 16, 3) := by decide +kernel
theorem dMo_order_42 : decode cMo_order 42 = .ok (.iload_n 3, 1) := by decide +kernel
theorem dMo_order_43 : decode cMo_order 43 = .ok (.iaload, 1) := by decide +kernel
theorem dMo_order_44 : decode cMo_order 44 = .ok (.invokevirtual 104, 3) := by decide +kernel
theorem dMo_order_47 : decode cMo_order 47 = .ok (.ifCond .eq 16, 3) := by decide +kernel
theorem dMo_order_50 : decode cMo_order 50 = .ok (.iload_n 2, 1) := by decide +kernel
theorem dMo_order_51 : decode cMo_order 51 = .ok (.iconst 1, 1) := by decide +kernel
theorem dMo_order_52 : decode cMo_order 52 = .ok (.aload_n 0, 1) := by decide +kernel
theorem dMo_order_53 : decode cMo_order 53 = .ok (.getfield 16, 3) := by decide +kernel
theorem dMo_order_56 : decode cMo_order 56 = .ok (.iload_n 3, 1) := by decide +kernel
theorem dMo_order_57 : decode cMo_order 57 = .ok (.iaload, 1) := by decide +kernel
theorem dMo_order_58 : decode cMo_order 58 = .ok (.ishl, 1) := by decide +kernel
theorem dMo_order_59 : decode cMo_order 59 = .ok (.ior, 1) := by decide +kernel
theorem dMo_order_60 : decode cMo_order 60 = .ok (.goto 4, 3) := by decide +kernel
theorem dMo_order_63 : decode cMo_order 63 = .ok (.iload_n 2, 1) := by decide +kernel
theorem dMo_order_64 : decode cMo_order 64 = .ok (.istore_n 2, 1) := by decide +kernel
theorem dMo_order_65 : decode cMo_order 65 = .ok (.iinc 3 1, 3) := by decide +kernel
theorem dMo_order_68 : decode cMo_order 68 = .ok (.goto (-39), 3) := by decide +kernel
theorem dMo_order_71 : decode cMo_order 71 = .ok (.iload_n 2, 1) := by decide +kernel
theorem dMo_order_72 : decode cMo_order 72 = .ok (.iconst 1, 1) := by decide +kernel
theorem dMo_order_73 : decode cMo_order 73 = .ok (.aload_n 0, 1) := by decide +kernel
theorem dMo_order_74 : decode cMo_order 74 = .ok (.getfield 68, 3) := by decide +kernel
theorem dMo_order_77 : decode cMo_order 77 = .ok (.ishl, 1) := by decide +kernel
theorem dMo_order_78 : decode cMo_order 78 = .ok (.iconst 1, 1) := by decide +kernel
theorem dMo_order_79 : decode cMo_order 79 = .ok (.isub, 1) := by decide +kernel
theorem dMo_order_80 : decode cMo_order 80 = .ok (.if_icmp .eq 6, 3) := by decide +kernel
theorem dMo_order_83 : decode cMo_order 83 = .ok (.bipush (-3), 2) := by decide +kernel
theorem dMo_order_85 : decode cMo_order 85 = .ok (.ireturn, 1) := by decide +kernel
theorem dMo_order_86 : decode cMo_order 86 = .ok (.aload_n 0, 1) := by decide +kernel
theorem dMo_order_87 : decode cMo_order 87 = .ok (.iload_n 1, 1) := by decide +kernel
theorem dMo_order_88 : decode cMo_order 88 = .ok (.invokevirtual 143, 3) := by decide +kernel
theorem dMo_order_91 : decode cMo_order 91 = .ok (.aload_n 0, 1) := by decide +kernel
theorem dMo_order_92 : decode cMo_order 92 = .ok (.invokevirtual 149, 3) := by decide +kernel
theorem dMo_order_95 : decode cMo_order 95 = .ok (.ireturn, 1) := by decide +kernel
abbrev cMo_taken : ByteArray := prog_9_method_28_code
def yMo_taken : MethodName := ⟨RMo, "taken", "(II)I"⟩
theorem dMo_taken_0 : decode cMo_taken 0 = .ok (.aload_n 0, 1) := by decide +kernel
theorem dMo_taken_1 : decode cMo_taken 1 = .ok (.iconst 0, 1) := by decide +kernel
theorem dMo_taken_2 : decode cMo_taken 2 = .ok (.putfield 65, 3) := by decide +kernel
theorem dMo_taken_5 : decode cMo_taken 5 = .ok (.aload_n 0, 1) := by decide +kernel
theorem dMo_taken_6 : decode cMo_taken 6 = .ok (.iload_n 1, 1) := by decide +kernel
theorem dMo_taken_7 : decode cMo_taken 7 = .ok (.invokevirtual 104, 3) := by decide +kernel
theorem dMo_taken_10 : decode cMo_taken 10 = .ok (.ifCond .ne 5, 3) := by decide +kernel
theorem dMo_taken_13 : decode cMo_taken 13 = .ok (.iconst (-1), 1) := by decide +kernel
theorem dMo_taken_14 : decode cMo_taken 14 = .ok (.ireturn, 1) := by decide +kernel
theorem dMo_taken_15 : decode cMo_taken 15 = .ok (.iload_n 2, 1) := by decide +kernel
theorem dMo_taken_16 : decode cMo_taken 16 = .ok (.i2l, 1) := by decide +kernel
theorem dMo_taken_17 : decode cMo_taken 17 = .ok (.lconst 0, 1) := by decide +kernel
theorem dMo_taken_18 : decode cMo_taken 18 = .ok (.ldc2_w 102, 3) := by decide +kernel
theorem dMo_taken_21 : decode cMo_taken 21 = .ok (.invokestatic 71, 3) := by decide +kernel
theorem dMo_taken_24 : decode cMo_taken 24 = .ok (.ifCond .ne 6, 3) := by decide +kernel
theorem dMo_taken_27 : decode cMo_taken 27 = .ok (.bipush (-2), 2) := by decide +kernel
theorem dMo_taken_29 : decode cMo_taken 29 = .ok (.ireturn, 1) := by decide +kernel
theorem dMo_taken_30 : decode cMo_taken 30 = .ok (.aload_n 0, 1) := by decide +kernel
theorem dMo_taken_31 : decode cMo_taken 31 = .ok (.invokevirtual 152, 3) := by decide +kernel
theorem dMo_taken_34 : decode cMo_taken 34 = .ok (.iload_n 2, 1) := by decide +kernel
theorem dMo_taken_35 : decode cMo_taken 35 = .ok (.ifCond .ne 10, 3) := by decide +kernel
theorem dMo_taken_38 : decode cMo_taken 38 = .ok (.aload_n 0, 1) := by decide +kernel
theorem dMo_taken_39 : decode cMo_taken 39 = .ok (.getfield 28, 3) := by decide +kernel
theorem dMo_taken_42 : decode cMo_taken 42 = .ok (.iload_n 1, 1) := by decide +kernel
theorem dMo_taken_43 : decode cMo_taken 43 = .ok (.iaload, 1) := by decide +kernel
theorem dMo_taken_44 : decode cMo_taken 44 = .ok (.ireturn, 1) := by decide +kernel
theorem dMo_taken_45 : decode cMo_taken 45 = .ok (.iload_n 2, 1) := by decide +kernel
theorem dMo_taken_46 : decode cMo_taken 46 = .ok (.iconst 1, 1) := by decide +kernel
theorem dMo_taken_47 : decode cMo_taken 47 = .ok (.if_icmp .ne 10, 3) := by decide +kernel
theorem dMo_taken_50 : decode cMo_taken 50 = .ok (.aload_n 0, 1) := by decide +kernel
theorem dMo_taken_51 : decode cMo_taken 51 = .ok (.getfield 31, 3) := by decide +kernel
theorem dMo_taken_54 : decode cMo_taken 54 = .ok (.iload_n 1, 1) := by decide +kernel
theorem dMo_taken_55 : decode cMo_taken 55 = .ok (.iaload, 1) := by decide +kernel
theorem dMo_taken_56 : decode cMo_taken 56 = .ok (.ireturn, 1) := by decide +kernel
theorem dMo_taken_57 : decode cMo_taken 57 = .ok (.iload_n 2, 1) := by decide +kernel
theorem dMo_taken_58 : decode cMo_taken 58 = .ok (.iconst 3, 1) := by decide +kernel
theorem dMo_taken_59 : decode cMo_taken 59 = .ok (.if_icmp .ne 14, 3) := by decide +kernel
theorem dMo_taken_62 : decode cMo_taken 62 = .ok (.aload_n 0, 1) := by decide +kernel
theorem dMo_taken_63 : decode cMo_taken 63 = .ok (.aload_n 0, 1) := by decide +kernel
theorem dMo_taken_64 : decode cMo_taken 64 = .ok (.getfield 31, 3) := by decide +kernel
theorem dMo_taken_67 : decode cMo_taken 67 = .ok (.iload_n 1, 1) := by decide +kernel
theorem dMo_taken_68 : decode cMo_taken 68 = .ok (.iaload, 1) := by decide +kernel
theorem dMo_taken_69 : decode cMo_taken 69 = .ok (.invokevirtual 97, 3) := by decide +kernel
theorem dMo_taken_72 : decode cMo_taken 72 = .ok (.ireturn, 1) := by decide +kernel
theorem dMo_taken_73 : decode cMo_taken 73 = .ok (.iload_n 1, 1) := by decide +kernel
theorem dMo_taken_74 : decode cMo_taken 74 = .ok (.iconst 1, 1) := by decide +kernel
theorem dMo_taken_75 : decode cMo_taken 75 = .ok (.iadd, 1) := by decide +kernel
theorem dMo_taken_76 : decode cMo_taken 76 = .ok (.istore_n 3, 1) := by decide +kernel
theorem dMo_taken_77 : decode cMo_taken 77 = .ok (.iload_n 3, 1) := by decide +kernel
theorem dMo_taken_78 : decode cMo_taken 78 = .ok (.aload_n 0, 1) := by decide +kernel
theorem dMo_taken_79 : decode cMo_taken 79 = .ok (.getfield 68, 3) := by decide +kernel
theorem dMo_taken_82 : decode cMo_taken 82 = .ok (.if_icmp .ge 30, 3) := by decide +kernel
theorem dMo_taken_85 : decode cMo_taken 85 = .ok (.aload_n 0, 1) := by decide +kernel
theorem dMo_taken_86 : decode cMo_taken 86 = .ok (.getfield 31, 3) := by decide +kernel
theorem dMo_taken_89 : decode cMo_taken 89 = .ok (.iload_n 1, 1) := by decide +kernel
theorem dMo_taken_90 : decode cMo_taken 90 = .ok (.iaload, 1) := by decide +kernel
theorem dMo_taken_91 : decode cMo_taken 91 = .ok (.aload_n 0, 1) := by decide +kernel
theorem dMo_taken_92 : decode cMo_taken 92 = .ok (.getfield 28, 3) := by decide +kernel
theorem dMo_taken_95 : decode cMo_taken 95 = .ok (.iload_n 3, 1) := by decide +kernel
theorem dMo_taken_96 : decode cMo_taken 96 = .ok (.iaload, 1) := by decide +kernel
theorem dMo_taken_97 : decode cMo_taken 97 = .ok (.ishr, 1) := by decide +kernel
theorem dMo_taken_98 : decode cMo_taken 98 = .ok (.iconst 1, 1) := by decide +kernel
theorem dMo_taken_99 : decode cMo_taken 99 = .ok (.iand, 1) := by decide +kernel
theorem dMo_taken_100 : decode cMo_taken 100 = .ok (.iconst 1, 1) := by decide +kernel
theorem dMo_taken_101 : decode cMo_taken 101 = .ok (.if_icmp .ne 5, 3) := by decide +kernel
theorem dMo_taken_104 : decode cMo_taken 104 = .ok (.iload_n 3, 1) := by decide +kernel
theorem dMo_taken_105 : decode cMo_taken 105 = .ok (.ireturn, 1) := by decide +kernel
theorem dMo_taken_106 : decode cMo_taken 106 = .ok (.iinc 3 1, 3) := by decide +kernel
theorem dMo_taken_109 : decode cMo_taken 109 = .ok (.goto (-32), 3) := by decide +kernel
theorem dMo_taken_112 : decode cMo_taken 112 = .ok (.iconst (-1), 1) := by decide +kernel
theorem dMo_taken_113 : decode cMo_taken 113 = .ok (.ireturn, 1) := by decide +kernel
abbrev cMo_mostCells : ByteArray := prog_9_method_29_code
def yMo_mostCells : MethodName := ⟨RMo, "mostCells", "()I"⟩
theorem dMo_mostCells_0 : decode cMo_mostCells 0 = .ok (.iconst 0, 1) := by decide +kernel
theorem dMo_mostCells_1 : decode cMo_mostCells 1 = .ok (.istore_n 1, 1) := by decide +kernel
theorem dMo_mostCells_2 : decode cMo_mostCells 2 = .ok (.iconst 0, 1) := by decide +kernel
theorem dMo_mostCells_3 : decode cMo_mostCells 3 = .ok (.istore_n 2, 1) := by decide +kernel
theorem dMo_mostCells_4 : decode cMo_mostCells 4 = .ok (.iload_n 2, 1) := by decide +kernel
theorem dMo_mostCells_5 : decode cMo_mostCells 5 = .ok (.aload_n 0, 1) := by decide +kernel
theorem dMo_mostCells_6 : decode cMo_mostCells 6 = .ok (.getfield 68, 3) := by decide +kernel
theorem dMo_mostCells_9 : decode cMo_mostCells 9 = .ok (.if_icmp .ge 38, 3) := by decide +kernel
theorem dMo_mostCells_12 : decode cMo_mostCells 12 = .ok (.aload_n 0, 1) := by decide +kernel
theorem dMo_mostCells_13 : decode cMo_mostCells 13 = .ok (.aload_n 0, 1) := by decide +kernel
theorem dMo_mostCells_14 : decode cMo_mostCells 14 = .ok (.getfield 31, 3) := by decide +kernel
theorem dMo_mostCells_17 : decode cMo_mostCells 17 = .ok (.iload_n 2, 1) := by decide +kernel
theorem dMo_mostCells_18 : decode cMo_mostCells 18 = .ok (.iaload, 1) := by decide +kernel
theorem dMo_mostCells_19 : decode cMo_mostCells 19 = .ok (.invokevirtual 97, 3) := by decide +kernel
theorem dMo_mostCells_22 : decode cMo_mostCells 22 = .ok (.iload_n 1, 1) := by decide +kernel
theorem dMo_mostCells_23 : decode cMo_mostCells 23 = .ok (.if_icmp .le 16, 3) := by decide +kernel
theorem dMo_mostCells_26 : decode cMo_mostCells 26 = .ok (.aload_n 0, 1) := by decide +kernel
theorem dMo_mostCells_27 : decode cMo_mostCells 27 = .ok (.aload_n 0, 1) := by decide +kernel
theorem dMo_mostCells_28 : decode cMo_mostCells 28 = .ok (.getfield 31, 3) := by decide +kernel
theorem dMo_mostCells_31 : decode cMo_mostCells 31 = .ok (.iload_n 2, 1) := by decide +kernel
theorem dMo_mostCells_32 : decode cMo_mostCells 32 = .ok (.iaload, 1) := by decide +kernel
theorem dMo_mostCells_33 : decode cMo_mostCells 33 = .ok (.invokevirtual 97, 3) := by decide +kernel
theorem dMo_mostCells_36 : decode cMo_mostCells 36 = .ok (.goto 4, 3) := by decide +kernel
theorem dMo_mostCells_39 : decode cMo_mostCells 39 = .ok (.iload_n 1, 1) := by decide +kernel
theorem dMo_mostCells_40 : decode cMo_mostCells 40 = .ok (.istore_n 1, 1) := by decide +kernel
theorem dMo_mostCells_41 : decode cMo_mostCells 41 = .ok (.iinc 2 1, 3) := by decide +kernel
theorem dMo_mostCells_44 : decode cMo_mostCells 44 = .ok (.goto (-40), 3) := by decide +kernel
theorem dMo_mostCells_47 : decode cMo_mostCells 47 = .ok (.iload_n 1, 1) := by decide +kernel
theorem dMo_mostCells_48 : decode cMo_mostCells 48 = .ok (.ireturn, 1) := by decide +kernel
abbrev cMo_pairs : ByteArray := prog_9_method_30_code
def yMo_pairs : MethodName := ⟨RMo, "pairs", "()I"⟩
theorem dMo_pairs_0 : decode cMo_pairs 0 = .ok (.aload_n 0, 1) := by decide +kernel
theorem dMo_pairs_1 : decode cMo_pairs 1 = .ok (.invokevirtual 130, 3) := by decide +kernel
theorem dMo_pairs_4 : decode cMo_pairs 4 = .ok (.iconst 0, 1) := by decide +kernel
theorem dMo_pairs_5 : decode cMo_pairs 5 = .ok (.istore_n 1, 1) := by decide +kernel
theorem dMo_pairs_6 : decode cMo_pairs 6 = .ok (.iconst 0, 1) := by decide +kernel
theorem dMo_pairs_7 : decode cMo_pairs 7 = .ok (.istore_n 2, 1) := by decide +kernel
theorem dMo_pairs_8 : decode cMo_pairs 8 = .ok (.iload_n 2, 1) := by decide +kernel
theorem dMo_pairs_9 : decode cMo_pairs 9 = .ok (.aload_n 0, 1) := by decide +kernel
theorem dMo_pairs_10 : decode cMo_pairs 10 = .ok (.getfield 68, 3) := by decide +kernel
theorem dMo_pairs_13 : decode cMo_pairs 13 = .ok (.if_icmp .ge 21, 3) := by decide +kernel
theorem dMo_pairs_16 : decode cMo_pairs 16 = .ok (.iload_n 1, 1) := by decide +kernel
theorem dMo_pairs_17 : decode cMo_pairs 17 = .ok (.aload_n 0, 1) := by decide +kernel
theorem dMo_pairs_18 : decode cMo_pairs 18 = .ok (.getfield 34, 3) := by decide +kernel
theorem dMo_pairs_21 : decode cMo_pairs 21 = .ok (.iload_n 2, 1) := by decide +kernel
theorem dMo_pairs_22 : decode cMo_pairs 22 = .ok (.iaload, 1) := by decide +kernel
theorem dMo_pairs_23 : decode cMo_pairs 23 = .ok (.invokestatic 86, 3) := by decide +kernel
theorem dMo_pairs_26 : decode cMo_pairs 26 = .ok (.iadd, 1) := by decide +kernel
theorem dMo_pairs_27 : decode cMo_pairs 27 = .ok (.istore_n 1, 1) := by decide +kernel
theorem dMo_pairs_28 : decode cMo_pairs 28 = .ok (.iinc 2 1, 3) := by decide +kernel
theorem dMo_pairs_31 : decode cMo_pairs 31 = .ok (.goto (-23), 3) := by decide +kernel
theorem dMo_pairs_34 : decode cMo_pairs 34 = .ok (.iload_n 1, 1) := by decide +kernel
theorem dMo_pairs_35 : decode cMo_pairs 35 = .ok (.iconst 2, 1) := by decide +kernel
theorem dMo_pairs_36 : decode cMo_pairs 36 = .ok (.idiv, 1) := by decide +kernel
theorem dMo_pairs_37 : decode cMo_pairs 37 = .ok (.ireturn, 1) := by decide +kernel
abbrev cMo_told : ByteArray := prog_9_method_31_code
def yMo_told : MethodName := ⟨RMo, "told", "(I)I"⟩
theorem dMo_told_0 : decode cMo_told 0 = .ok (.aload_n 0, 1) := by decide +kernel
theorem dMo_told_1 : decode cMo_told 1 = .ok (.iconst 0, 1) := by decide +kernel
theorem dMo_told_2 : decode cMo_told 2 = .ok (.putfield 65, 3) := by decide +kernel
theorem dMo_told_5 : decode cMo_told 5 = .ok (.iload_n 1, 1) := by decide +kernel
theorem dMo_told_6 : decode cMo_told 6 = .ok (.i2l, 1) := by decide +kernel
theorem dMo_told_7 : decode cMo_told 7 = .ok (.lconst 0, 1) := by decide +kernel
theorem dMo_told_8 : decode cMo_told 8 = .ok (.ldc2_w 155, 3) := by decide +kernel
theorem dMo_told_11 : decode cMo_told 11 = .ok (.invokestatic 71, 3) := by decide +kernel
theorem dMo_told_14 : decode cMo_told 14 = .ok (.ifCond .ne 6, 3) := by decide +kernel
theorem dMo_told_17 : decode cMo_told 17 = .ok (.bipush (-2), 2) := by decide +kernel
theorem dMo_told_19 : decode cMo_told 19 = .ok (.ireturn, 1) := by decide +kernel
theorem dMo_told_20 : decode cMo_told 20 = .ok (.aload_n 0, 1) := by decide +kernel
theorem dMo_told_21 : decode cMo_told 21 = .ok (.invokevirtual 152, 3) := by decide +kernel
theorem dMo_told_24 : decode cMo_told 24 = .ok (.iload_n 1, 1) := by decide +kernel
theorem dMo_told_25 : decode cMo_told 25 = .ok (.tableswitch 124 0 8 #[51, 56, 61, 66, 71, 76, 81, 86, 91], 51) := by decide +kernel
theorem dMo_told_76 : decode cMo_told 76 = .ok (.aload_n 0, 1) := by decide +kernel
theorem dMo_told_77 : decode cMo_told 77 = .ok (.getfield 68, 3) := by decide +kernel
theorem dMo_told_80 : decode cMo_told 80 = .ok (.ireturn, 1) := by decide +kernel
theorem dMo_told_81 : decode cMo_told 81 = .ok (.aload_n 0, 1) := by decide +kernel
theorem dMo_told_82 : decode cMo_told 82 = .ok (.getfield 79, 3) := by decide +kernel
theorem dMo_told_85 : decode cMo_told 85 = .ok (.ireturn, 1) := by decide +kernel
theorem dMo_told_86 : decode cMo_told 86 = .ok (.aload_n 0, 1) := by decide +kernel
theorem dMo_told_87 : decode cMo_told 87 = .ok (.invokevirtual 90, 3) := by decide +kernel
theorem dMo_told_90 : decode cMo_told 90 = .ok (.ireturn, 1) := by decide +kernel
theorem dMo_told_91 : decode cMo_told 91 = .ok (.aload_n 0, 1) := by decide +kernel
theorem dMo_told_92 : decode cMo_told 92 = .ok (.getfield 58, 3) := by decide +kernel
theorem dMo_told_95 : decode cMo_told 95 = .ok (.ireturn, 1) := by decide +kernel
theorem dMo_told_96 : decode cMo_told 96 = .ok (.aload_n 0, 1) := by decide +kernel
theorem dMo_told_97 : decode cMo_told 97 = .ok (.invokevirtual 157, 3) := by decide +kernel
theorem dMo_told_100 : decode cMo_told 100 = .ok (.ireturn, 1) := by decide +kernel
theorem dMo_told_101 : decode cMo_told 101 = .ok (.aload_n 0, 1) := by decide +kernel
theorem dMo_told_102 : decode cMo_told 102 = .ok (.getfield 127, 3) := by decide +kernel
theorem dMo_told_105 : decode cMo_told 105 = .ok (.ireturn, 1) := by decide +kernel
theorem dMo_told_106 : decode cMo_told 106 = .ok (.aload_n 0, 1) := by decide +kernel
theorem dMo_told_107 : decode cMo_told 107 = .ok (.invokevirtual 149, 3) := by decide +kernel
theorem dMo_told_110 : decode cMo_told 110 = .ok (.ireturn, 1) := by decide +kernel
theorem dMo_told_111 : decode cMo_told 111 = .ok (.aload_n 0, 1) := by decide +kernel
theorem dMo_told_112 : decode cMo_told 112 = .ok (.getfield 113, 3) := by decide +kernel
theorem dMo_told_115 : decode cMo_told 115 = .ok (.ireturn, 1) := by decide +kernel
theorem dMo_told_116 : decode cMo_told 116 = .ok (.iconst 0, 1) := by decide +kernel
theorem dMo_told_117 : decode cMo_told 117 = .ok (.istore_n 2, 1) := by decide +kernel
theorem dMo_told_118 : decode cMo_told 118 = .ok (.iconst 0, 1) := by decide +kernel
theorem dMo_told_119 : decode cMo_told 119 = .ok (.istore_n 3, 1) := by decide +kernel
theorem dMo_told_120 : decode cMo_told 120 = .ok (.iload_n 3, 1) := by decide +kernel
theorem dMo_told_121 : decode cMo_told 121 = .ok (.aload_n 0, 1) := by decide +kernel
theorem dMo_told_122 : decode cMo_told 122 = .ok (.getfield 68, 3) := by decide +kernel
theorem dMo_told_125 : decode cMo_told 125 = .ok (.if_icmp .ge 22, 3) := by decide +kernel
theorem dMo_told_128 : decode cMo_told 128 = .ok (.iload_n 2, 1) := by decide +kernel
theorem dMo_told_129 : decode cMo_told 129 = .ok (.aload_n 0, 1) := by decide +kernel
theorem dMo_told_130 : decode cMo_told 130 = .ok (.aload_n 0, 1) := by decide +kernel
theorem dMo_told_131 : decode cMo_told 131 = .ok (.getfield 31, 3) := by decide +kernel
theorem dMo_told_134 : decode cMo_told 134 = .ok (.iload_n 3, 1) := by decide +kernel
theorem dMo_told_135 : decode cMo_told 135 = .ok (.iaload, 1) := by decide +kernel
theorem dMo_told_136 : decode cMo_told 136 = .ok (.invokevirtual 97, 3) := by decide +kernel
theorem dMo_told_139 : decode cMo_told 139 = .ok (.iadd, 1) := by decide +kernel
theorem dMo_told_140 : decode cMo_told 140 = .ok (.istore_n 2, 1) := by decide +kernel
theorem dMo_told_141 : decode cMo_told 141 = .ok (.iinc 3 1, 3) := by decide +kernel
theorem dMo_told_144 : decode cMo_told 144 = .ok (.goto (-24), 3) := by decide +kernel
theorem dMo_told_147 : decode cMo_told 147 = .ok (.iload_n 2, 1) := by decide +kernel
theorem dMo_told_148 : decode cMo_told 148 = .ok (.ireturn, 1) := by decide +kernel
theorem dMo_told_149 : decode cMo_told 149 = .ok (.aload_n 0, 1) := by decide +kernel
theorem dMo_told_150 : decode cMo_told 150 = .ok (.invokevirtual 160, 3) := by decide +kernel
theorem dMo_told_153 : decode cMo_told 153 = .ok (.ireturn, 1) := by decide +kernel
abbrev cMo_isTooMuch : ByteArray := prog_9_method_32_code
def yMo_isTooMuch : MethodName := ⟨RMo, "isTooMuch", "()Z"⟩
theorem dMo_isTooMuch_0 : decode cMo_isTooMuch 0 = .ok (.aload_n 0, 1) := by decide +kernel
theorem dMo_isTooMuch_1 : decode cMo_isTooMuch 1 = .ok (.invokevirtual 152, 3) := by decide +kernel
theorem dMo_isTooMuch_4 : decode cMo_isTooMuch 4 = .ok (.aload_n 0, 1) := by decide +kernel
theorem dMo_isTooMuch_5 : decode cMo_isTooMuch 5 = .ok (.invokevirtual 160, 3) := by decide +kernel
theorem dMo_isTooMuch_8 : decode cMo_isTooMuch 8 = .ok (.aload_n 0, 1) := by decide +kernel
theorem dMo_isTooMuch_9 : decode cMo_isTooMuch 9 = .ok (.getfield 54, 3) := by decide +kernel
theorem dMo_isTooMuch_12 : decode cMo_isTooMuch 12 = .ok (.if_icmp .le 7, 3) := by decide +kernel
theorem dMo_isTooMuch_15 : decode cMo_isTooMuch 15 = .ok (.iconst 1, 1) := by decide +kernel
theorem dMo_isTooMuch_16 : decode cMo_isTooMuch 16 = .ok (.goto 4, 3) := by decide +kernel
theorem dMo_isTooMuch_19 : decode cMo_isTooMuch 19 = .ok (.iconst 0, 1) := by decide +kernel
theorem dMo_isTooMuch_20 : decode cMo_isTooMuch 20 = .ok (.ireturn, 1) := by decide +kernel
abbrev cMo_lay : ByteArray := prog_9_method_33_code
def yMo_lay : MethodName := ⟨RMo, "lay", "(I)V"⟩
theorem dMo_lay_0 : decode cMo_lay 0 = .ok (.iload_n 1, 1) := by decide +kernel
theorem dMo_lay_1 : decode cMo_lay 1 = .ok (.istore_n 2, 1) := by decide +kernel
theorem dMo_lay_2 : decode cMo_lay 2 = .ok (.aload_n 0, 1) := by decide +kernel
theorem dMo_lay_3 : decode cMo_lay 3 = .ok (.getfield 68, 3) := by decide +kernel
theorem dMo_lay_6 : decode cMo_lay 6 = .ok (.iconst 1, 1) := by decide +kernel
theorem dMo_lay_7 : decode cMo_lay 7 = .ok (.isub, 1) := by decide +kernel
theorem dMo_lay_8 : decode cMo_lay 8 = .ok (.istore_n 3, 1) := by decide +kernel
theorem dMo_lay_9 : decode cMo_lay 9 = .ok (.iload_n 3, 1) := by decide +kernel
theorem dMo_lay_10 : decode cMo_lay 10 = .ok (.ifCond .lt 32, 3) := by decide +kernel
theorem dMo_lay_13 : decode cMo_lay 13 = .ok (.aload_n 0, 1) := by decide +kernel
theorem dMo_lay_14 : decode cMo_lay 14 = .ok (.getfield 44, 3) := by decide +kernel
theorem dMo_lay_17 : decode cMo_lay 17 = .ok (.iload_n 3, 1) := by decide +kernel
theorem dMo_lay_18 : decode cMo_lay 18 = .ok (.iload_n 2, 1) := by decide +kernel
theorem dMo_lay_19 : decode cMo_lay 19 = .ok (.aload_n 0, 1) := by decide +kernel
theorem dMo_lay_20 : decode cMo_lay 20 = .ok (.getfield 7, 3) := by decide +kernel
theorem dMo_lay_23 : decode cMo_lay 23 = .ok (.iload_n 3, 1) := by decide +kernel
theorem dMo_lay_24 : decode cMo_lay 24 = .ok (.iaload, 1) := by decide +kernel
theorem dMo_lay_25 : decode cMo_lay 25 = .ok (.irem, 1) := by decide +kernel
theorem dMo_lay_26 : decode cMo_lay 26 = .ok (.iastore, 1) := by decide +kernel
theorem dMo_lay_27 : decode cMo_lay 27 = .ok (.iload_n 2, 1) := by decide +kernel
theorem dMo_lay_28 : decode cMo_lay 28 = .ok (.aload_n 0, 1) := by decide +kernel
theorem dMo_lay_29 : decode cMo_lay 29 = .ok (.getfield 7, 3) := by decide +kernel
theorem dMo_lay_32 : decode cMo_lay 32 = .ok (.iload_n 3, 1) := by decide +kernel
theorem dMo_lay_33 : decode cMo_lay 33 = .ok (.iaload, 1) := by decide +kernel
theorem dMo_lay_34 : decode cMo_lay 34 = .ok (.idiv, 1) := by decide +kernel
theorem dMo_lay_35 : decode cMo_lay 35 = .ok (.istore_n 2, 1) := by decide +kernel
theorem dMo_lay_36 : decode cMo_lay 36 = .ok (.iinc 3 (-1), 3) := by decide +kernel
theorem dMo_lay_39 : decode cMo_lay 39 = .ok (.goto (-30), 3) := by decide +kernel
theorem dMo_lay_42 : decode cMo_lay 42 = .ok (.return_, 1) := by decide +kernel
abbrev cMo_numberOf : ByteArray := prog_9_method_34_code
def yMo_numberOf : MethodName := ⟨RMo, "numberOf", "(I)I"⟩
theorem dMo_numberOf_0 : decode cMo_numberOf 0 = .ok (.iconst 0, 1) := by decide +kernel
theorem dMo_numberOf_1 : decode cMo_numberOf 1 = .ok (.istore_n 2, 1) := by decide +kernel
theorem dMo_numberOf_2 : decode cMo_numberOf 2 = .ok (.iconst 1, 1) := by decide +kernel
theorem dMo_numberOf_3 : decode cMo_numberOf 3 = .ok (.istore_n 3, 1) := by decide +kernel
theorem dMo_numberOf_4 : decode cMo_numberOf 4 = .ok (.iconst 0, 1) := by decide +kernel
theorem dMo_numberOf_5 : decode cMo_numberOf 5 = .ok (.istore 4, 2) := by decide +kernel
theorem dMo_numberOf_7 : decode cMo_numberOf 7 = .ok (.iload 4, 2) := by decide +kernel
theorem dMo_numberOf_9 : decode cMo_numberOf 9 = .ok (.aload_n 0, 1) := by decide +kernel
theorem dMo_numberOf_10 : decode cMo_numberOf 10 = .ok (.getfield 68, 3) := by decide +kernel
theorem dMo_numberOf_13 : decode cMo_numberOf 13 = .ok (.if_icmp .ge 41, 3) := by decide +kernel
theorem dMo_numberOf_16 : decode cMo_numberOf 16 = .ok (.iload_n 1, 1) := by decide +kernel
theorem dMo_numberOf_17 : decode cMo_numberOf 17 = .ok (.iload 4, 2) := by decide +kernel
theorem dMo_numberOf_19 : decode cMo_numberOf 19 = .ok (.ishr, 1) := by decide +kernel
theorem dMo_numberOf_20 : decode cMo_numberOf 20 = .ok (.iconst 1, 1) := by decide +kernel
theorem dMo_numberOf_21 : decode cMo_numberOf 21 = .ok (.iand, 1) := by decide +kernel
theorem dMo_numberOf_22 : decode cMo_numberOf 22 = .ok (.iconst 1, 1) := by decide +kernel
theorem dMo_numberOf_23 : decode cMo_numberOf 23 = .ok (.if_icmp .ne 25, 3) := by decide +kernel
theorem dMo_numberOf_26 : decode cMo_numberOf 26 = .ok (.iload_n 2, 1) := by decide +kernel
theorem dMo_numberOf_27 : decode cMo_numberOf 27 = .ok (.iload_n 3, 1) := by decide +kernel
theorem dMo_numberOf_28 : decode cMo_numberOf 28 = .ok (.aload_n 0, 1) := by decide +kernel
theorem dMo_numberOf_29 : decode cMo_numberOf 29 = .ok (.getfield 44, 3) := by decide +kernel
theorem dMo_numberOf_32 : decode cMo_numberOf 32 = .ok (.iload 4, 2) := by decide +kernel
theorem dMo_numberOf_34 : decode cMo_numberOf 34 = .ok (.iaload, 1) := by decide +kernel
theorem dMo_numberOf_35 : decode cMo_numberOf 35 = .ok (.imul, 1) := by decide +kernel
theorem dMo_numberOf_36 : decode cMo_numberOf 36 = .ok (.iadd, 1) := by decide +kernel
theorem dMo_numberOf_37 : decode cMo_numberOf 37 = .ok (.istore_n 2, 1) := by decide +kernel
theorem dMo_numberOf_38 : decode cMo_numberOf 38 = .ok (.iload_n 3, 1) := by decide +kernel
theorem dMo_numberOf_39 : decode cMo_numberOf 39 = .ok (.aload_n 0, 1) := by decide +kernel
theorem dMo_numberOf_40 : decode cMo_numberOf 40 = .ok (.getfield 7, 3) := by decide +kernel
theorem dMo_numberOf_43 : decode cMo_numberOf 43 = .ok (.iload 4, 2) := by decide +kernel
theorem dMo_numberOf_45 : decode cMo_numberOf 45 = .ok (.iaload, 1) := by decide +kernel
theorem dMo_numberOf_46 : decode cMo_numberOf 46 = .ok (.imul, 1) := by decide +kernel
theorem dMo_numberOf_47 : decode cMo_numberOf 47 = .ok (.istore_n 3, 1) := by decide +kernel
theorem dMo_numberOf_48 : decode cMo_numberOf 48 = .ok (.iinc 4 1, 3) := by decide +kernel
theorem dMo_numberOf_51 : decode cMo_numberOf 51 = .ok (.goto (-44), 3) := by decide +kernel
theorem dMo_numberOf_54 : decode cMo_numberOf 54 = .ok (.iload_n 2, 1) := by decide +kernel
theorem dMo_numberOf_55 : decode cMo_numberOf 55 = .ok (.ireturn, 1) := by decide +kernel
abbrev cMo_weigh : ByteArray := prog_9_method_35_code
def yMo_weigh : MethodName := ⟨RMo, "weigh", "(I)J"⟩
theorem dMo_weigh_0 : decode cMo_weigh 0 = .ok (.aload_n 0, 1) := by decide +kernel
theorem dMo_weigh_1 : decode cMo_weigh 1 = .ok (.iload_n 1, 1) := by decide +kernel
theorem dMo_weigh_2 : decode cMo_weigh 2 = .ok (.invokevirtual 163, 3) := by decide +kernel
theorem dMo_weigh_5 : decode cMo_weigh 5 = .ok (.iconst 0, 1) := by decide +kernel
theorem dMo_weigh_6 : decode cMo_weigh 6 = .ok (.istore_n 2, 1) := by decide +kernel
theorem dMo_weigh_7 : decode cMo_weigh 7 = .ok (.iload_n 2, 1) := by decide +kernel
theorem dMo_weigh_8 : decode cMo_weigh 8 = .ok (.aload_n 0, 1) := by decide +kernel
theorem dMo_weigh_9 : decode cMo_weigh 9 = .ok (.getfield 68, 3) := by decide +kernel
theorem dMo_weigh_12 : decode cMo_weigh 12 = .ok (.if_icmp .ge 36, 3) := by decide +kernel
theorem dMo_weigh_15 : decode cMo_weigh 15 = .ok (.aload_n 0, 1) := by decide +kernel
theorem dMo_weigh_16 : decode cMo_weigh 16 = .ok (.getfield 13, 3) := by decide +kernel
theorem dMo_weigh_19 : decode cMo_weigh 19 = .ok (.iload_n 2, 1) := by decide +kernel
theorem dMo_weigh_20 : decode cMo_weigh 20 = .ok (.iaload, 1) := by decide +kernel
theorem dMo_weigh_21 : decode cMo_weigh 21 = .ok (.iconst (-1), 1) := by decide +kernel
theorem dMo_weigh_22 : decode cMo_weigh 22 = .ok (.if_icmp .eq 20, 3) := by decide +kernel
theorem dMo_weigh_25 : decode cMo_weigh 25 = .ok (.aload_n 0, 1) := by decide +kernel
theorem dMo_weigh_26 : decode cMo_weigh 26 = .ok (.getfield 13, 3) := by decide +kernel
theorem dMo_weigh_29 : decode cMo_weigh 29 = .ok (.iload_n 2, 1) := by decide +kernel
theorem dMo_weigh_30 : decode cMo_weigh 30 = .ok (.iaload, 1) := by decide +kernel
theorem dMo_weigh_31 : decode cMo_weigh 31 = .ok (.aload_n 0, 1) := by decide +kernel
theorem dMo_weigh_32 : decode cMo_weigh 32 = .ok (.getfield 44, 3) := by decide +kernel
theorem dMo_weigh_35 : decode cMo_weigh 35 = .ok (.iload_n 2, 1) := by decide +kernel
theorem dMo_weigh_36 : decode cMo_weigh 36 = .ok (.iaload, 1) := by decide +kernel
theorem dMo_weigh_37 : decode cMo_weigh 37 = .ok (.if_icmp .eq 5, 3) := by decide +kernel
theorem dMo_weigh_40 : decode cMo_weigh 40 = .ok (.lconst 0, 1) := by decide +kernel
theorem dMo_weigh_41 : decode cMo_weigh 41 = .ok (.lreturn, 1) := by decide +kernel
theorem dMo_weigh_42 : decode cMo_weigh 42 = .ok (.iinc 2 1, 3) := by decide +kernel
theorem dMo_weigh_45 : decode cMo_weigh 45 = .ok (.goto (-38), 3) := by decide +kernel
theorem dMo_weigh_48 : decode cMo_weigh 48 = .ok (.lconst 1, 1) := by decide +kernel
theorem dMo_weigh_49 : decode cMo_weigh 49 = .ok (.lstore_n 2, 1) := by decide +kernel
theorem dMo_weigh_50 : decode cMo_weigh 50 = .ok (.iconst 0, 1) := by decide +kernel
theorem dMo_weigh_51 : decode cMo_weigh 51 = .ok (.istore 4, 2) := by decide +kernel
theorem dMo_weigh_53 : decode cMo_weigh 53 = .ok (.iload 4, 2) := by decide +kernel
theorem dMo_weigh_55 : decode cMo_weigh 55 = .ok (.aload_n 0, 1) := by decide +kernel
theorem dMo_weigh_56 : decode cMo_weigh 56 = .ok (.getfield 79, 3) := by decide +kernel
theorem dMo_weigh_59 : decode cMo_weigh 59 = .ok (.if_icmp .ge 67, 3) := by decide +kernel
theorem dMo_weigh_62 : decode cMo_weigh 62 = .ok (.lload_n 2, 1) := by decide +kernel
theorem dMo_weigh_63 : decode cMo_weigh 63 = .ok (.lconst 0, 1) := by decide +kernel
theorem dMo_weigh_64 : decode cMo_weigh 64 = .ok (.lcmp, 1) := by decide +kernel
theorem dMo_weigh_65 : decode cMo_weigh 65 = .ok (.ifCond .le 61, 3) := by decide +kernel
theorem dMo_weigh_68 : decode cMo_weigh 68 = .ok (.aload_n 0, 1) := by decide +kernel
theorem dMo_weigh_69 : decode cMo_weigh 69 = .ok (.getfield 25, 3) := by decide +kernel
theorem dMo_weigh_72 : decode cMo_weigh 72 = .ok (.sipush 256, 3) := by decide +kernel
theorem dMo_weigh_75 : decode cMo_weigh 75 = .ok (.iload 4, 2) := by decide +kernel
theorem dMo_weigh_77 : decode cMo_weigh 77 = .ok (.imul, 1) := by decide +kernel
theorem dMo_weigh_78 : decode cMo_weigh 78 = .ok (.aload_n 0, 1) := by decide +kernel
theorem dMo_weigh_79 : decode cMo_weigh 79 = .ok (.aload_n 0, 1) := by decide +kernel
theorem dMo_weigh_80 : decode cMo_weigh 80 = .ok (.getfield 19, 3) := by decide +kernel
theorem dMo_weigh_83 : decode cMo_weigh 83 = .ok (.iload 4, 2) := by decide +kernel
theorem dMo_weigh_85 : decode cMo_weigh 85 = .ok (.iaload, 1) := by decide +kernel
theorem dMo_weigh_86 : decode cMo_weigh 86 = .ok (.invokevirtual 166, 3) := by decide +kernel
theorem dMo_weigh_89 : decode cMo_weigh 89 = .ok (.iadd, 1) := by decide +kernel
theorem dMo_weigh_90 : decode cMo_weigh 90 = .ok (.iaload, 1) := by decide +kernel
theorem dMo_weigh_91 : decode cMo_weigh 91 = .ok (.istore 5, 2) := by decide +kernel
theorem dMo_weigh_93 : decode cMo_weigh 93 = .ok (.iconst 0, 1) := by decide +kernel
theorem dMo_weigh_94 : decode cMo_weigh 94 = .ok (.istore 6, 2) := by decide +kernel
theorem dMo_weigh_96 : decode cMo_weigh 96 = .ok (.iload 6, 2) := by decide +kernel
theorem dMo_weigh_98 : decode cMo_weigh 98 = .ok (.aload_n 0, 1) := by decide +kernel
theorem dMo_weigh_99 : decode cMo_weigh 99 = .ok (.getfield 22, 3) := by decide +kernel
theorem dMo_weigh_102 : decode cMo_weigh 102 = .ok (.iload 4, 2) := by decide +kernel
theorem dMo_weigh_104 : decode cMo_weigh 104 = .ok (.iaload, 1) := by decide +kernel
theorem dMo_weigh_105 : decode cMo_weigh 105 = .ok (.if_icmp .ge 15, 3) := by decide +kernel
theorem dMo_weigh_108 : decode cMo_weigh 108 = .ok (.lload_n 2, 1) := by decide +kernel
theorem dMo_weigh_109 : decode cMo_weigh 109 = .ok (.iload 5, 2) := by decide +kernel
theorem dMo_weigh_111 : decode cMo_weigh 111 = .ok (.i2l, 1) := by decide +kernel
theorem dMo_weigh_112 : decode cMo_weigh 112 = .ok (.lmul, 1) := by decide +kernel
theorem dMo_weigh_113 : decode cMo_weigh 113 = .ok (.lstore_n 2, 1) := by decide +kernel
theorem dMo_weigh_114 : decode cMo_weigh 114 = .ok (.iinc 6 1, 3) := by decide +kernel
theorem dMo_weigh_117 : decode cMo_weigh 117 = .ok (.goto (-21), 3) := by decide +kernel
theorem dMo_weigh_120 : decode cMo_weigh 120 = .ok (.iinc 4 1, 3) := by decide +kernel
theorem dMo_weigh_123 : decode cMo_weigh 123 = .ok (.goto (-70), 3) := by decide +kernel
theorem dMo_weigh_126 : decode cMo_weigh 126 = .ok (.lload_n 2, 1) := by decide +kernel
theorem dMo_weigh_127 : decode cMo_weigh 127 = .ok (.lreturn, 1) := by decide +kernel
abbrev cMo_sum : ByteArray := prog_9_method_36_code
def yMo_sum : MethodName := ⟨RMo, "sum", "()J"⟩
theorem dMo_sum_0 : decode cMo_sum 0 = .ok (.lconst 0, 1) := by decide +kernel
theorem dMo_sum_1 : decode cMo_sum 1 = .ok (.lstore_n 1, 1) := by decide +kernel
theorem dMo_sum_2 : decode cMo_sum 2 = .ok (.iconst 0, 1) := by decide +kernel
theorem dMo_sum_3 : decode cMo_sum 3 = .ok (.istore_n 3, 1) := by decide +kernel
theorem dMo_sum_4 : decode cMo_sum 4 = .ok (.iload_n 3, 1) := by decide +kernel
theorem dMo_sum_5 : decode cMo_sum 5 = .ok (.aload_n 0, 1) := by decide +kernel
theorem dMo_sum_6 : decode cMo_sum 6 = .ok (.getfield 58, 3) := by decide +kernel
theorem dMo_sum_9 : decode cMo_sum 9 = .ok (.if_icmp .ge 17, 3) := by decide +kernel
theorem dMo_sum_12 : decode cMo_sum 12 = .ok (.lload_n 1, 1) := by decide +kernel
theorem dMo_sum_13 : decode cMo_sum 13 = .ok (.aload_n 0, 1) := by decide +kernel
theorem dMo_sum_14 : decode cMo_sum 14 = .ok (.iload_n 3, 1) := by decide +kernel
theorem dMo_sum_15 : decode cMo_sum 15 = .ok (.invokevirtual 169, 3) := by decide +kernel
theorem dMo_sum_18 : decode cMo_sum 18 = .ok (.ladd, 1) := by decide +kernel
theorem dMo_sum_19 : decode cMo_sum 19 = .ok (.lstore_n 1, 1) := by decide +kernel
theorem dMo_sum_20 : decode cMo_sum 20 = .ok (.iinc 3 1, 3) := by decide +kernel
theorem dMo_sum_23 : decode cMo_sum 23 = .ok (.goto (-19), 3) := by decide +kernel
theorem dMo_sum_26 : decode cMo_sum 26 = .ok (.lload_n 1, 1) := by decide +kernel
theorem dMo_sum_27 : decode cMo_sum 27 = .ok (.lreturn, 1) := by decide +kernel
abbrev cMo_total : ByteArray := prog_9_method_37_code
def yMo_total : MethodName := ⟨RMo, "total", "()J"⟩
theorem dMo_total_0 : decode cMo_total 0 = .ok (.aload_n 0, 1) := by decide +kernel
theorem dMo_total_1 : decode cMo_total 1 = .ok (.iconst 0, 1) := by decide +kernel
theorem dMo_total_2 : decode cMo_total 2 = .ok (.putfield 65, 3) := by decide +kernel
theorem dMo_total_5 : decode cMo_total 5 = .ok (.aload_n 0, 1) := by decide +kernel
theorem dMo_total_6 : decode cMo_total 6 = .ok (.invokevirtual 173, 3) := by decide +kernel
theorem dMo_total_9 : decode cMo_total 9 = .ok (.ifCond .eq 9, 3) := by decide +kernel
theorem dMo_total_12 : decode cMo_total 12 = .ok (.ldc2_w 177, 3) := by decide +kernel
theorem dMo_total_15 : decode cMo_total 15 = .ok (.goto 7, 3) := by decide +kernel
theorem dMo_total_18 : decode cMo_total 18 = .ok (.aload_n 0, 1) := by decide +kernel
theorem dMo_total_19 : decode cMo_total 19 = .ok (.invokevirtual 179, 3) := by decide +kernel
theorem dMo_total_22 : decode cMo_total 22 = .ok (.lreturn, 1) := by decide +kernel
abbrev cMo_divisor : ByteArray := prog_9_method_38_code
def yMo_divisor : MethodName := ⟨RMo, "divisor", "(JJ)J"⟩
theorem dMo_divisor_0 : decode cMo_divisor 0 = .ok (.lload_n 0, 1) := by decide +kernel
theorem dMo_divisor_1 : decode cMo_divisor 1 = .ok (.lstore 4, 2) := by decide +kernel
theorem dMo_divisor_3 : decode cMo_divisor 3 = .ok (.lload_n 2, 1) := by decide +kernel
theorem dMo_divisor_4 : decode cMo_divisor 4 = .ok (.lstore 6, 2) := by decide +kernel
theorem dMo_divisor_6 : decode cMo_divisor 6 = .ok (.lload 6, 2) := by decide +kernel
theorem dMo_divisor_8 : decode cMo_divisor 8 = .ok (.lconst 0, 1) := by decide +kernel
theorem dMo_divisor_9 : decode cMo_divisor 9 = .ok (.lcmp, 1) := by decide +kernel
theorem dMo_divisor_10 : decode cMo_divisor 10 = .ok (.ifCond .eq 21, 3) := by decide +kernel
theorem dMo_divisor_13 : decode cMo_divisor 13 = .ok (.lload 4, 2) := by decide +kernel
theorem dMo_divisor_15 : decode cMo_divisor 15 = .ok (.lload 6, 2) := by decide +kernel
theorem dMo_divisor_17 : decode cMo_divisor 17 = .ok (.lrem, 1) := by decide +kernel
theorem dMo_divisor_18 : decode cMo_divisor 18 = .ok (.lstore 8, 2) := by decide +kernel
theorem dMo_divisor_20 : decode cMo_divisor 20 = .ok (.lload 6, 2) := by decide +kernel
theorem dMo_divisor_22 : decode cMo_divisor 22 = .ok (.lstore 4, 2) := by decide +kernel
theorem dMo_divisor_24 : decode cMo_divisor 24 = .ok (.lload 8, 2) := by decide +kernel
theorem dMo_divisor_26 : decode cMo_divisor 26 = .ok (.lstore 6, 2) := by decide +kernel
theorem dMo_divisor_28 : decode cMo_divisor 28 = .ok (.goto (-22), 3) := by decide +kernel
theorem dMo_divisor_31 : decode cMo_divisor 31 = .ok (.lload 4, 2) := by decide +kernel
theorem dMo_divisor_33 : decode cMo_divisor 33 = .ok (.lreturn, 1) := by decide +kernel
abbrev cMo_share : ByteArray := prog_9_method_39_code
def yMo_share : MethodName := ⟨RMo, "share", "(III)J"⟩
theorem dMo_share_0 : decode cMo_share 0 = .ok (.aload_n 0, 1) := by decide +kernel
theorem dMo_share_1 : decode cMo_share 1 = .ok (.iconst 0, 1) := by decide +kernel
theorem dMo_share_2 : decode cMo_share 2 = .ok (.putfield 65, 3) := by decide +kernel
theorem dMo_share_5 : decode cMo_share 5 = .ok (.aload_n 0, 1) := by decide +kernel
theorem dMo_share_6 : decode cMo_share 6 = .ok (.iload_n 1, 1) := by decide +kernel
theorem dMo_share_7 : decode cMo_share 7 = .ok (.invokevirtual 82, 3) := by decide +kernel
theorem dMo_share_10 : decode cMo_share 10 = .ok (.ifCond .ne 7, 3) := by decide +kernel
theorem dMo_share_13 : decode cMo_share 13 = .ok (.ldc2_w 107, 3) := by decide +kernel
theorem dMo_share_16 : decode cMo_share 16 = .ok (.lreturn, 1) := by decide +kernel
theorem dMo_share_17 : decode cMo_share 17 = .ok (.iload_n 2, 1) := by decide +kernel
theorem dMo_share_18 : decode cMo_share 18 = .ok (.i2l, 1) := by decide +kernel
theorem dMo_share_19 : decode cMo_share 19 = .ok (.lconst 0, 1) := by decide +kernel
theorem dMo_share_20 : decode cMo_share 20 = .ok (.aload_n 0, 1) := by decide +kernel
theorem dMo_share_21 : decode cMo_share 21 = .ok (.iload_n 1, 1) := by decide +kernel
theorem dMo_share_22 : decode cMo_share 22 = .ok (.invokevirtual 97, 3) := by decide +kernel
theorem dMo_share_25 : decode cMo_share 25 = .ok (.iconst 1, 1) := by decide +kernel
theorem dMo_share_26 : decode cMo_share 26 = .ok (.isub, 1) := by decide +kernel
theorem dMo_share_27 : decode cMo_share 27 = .ok (.i2l, 1) := by decide +kernel
theorem dMo_share_28 : decode cMo_share 28 = .ok (.invokestatic 71, 3) := by decide +kernel
theorem dMo_share_31 : decode cMo_share 31 = .ok (.ifCond .eq 13, 3) := by decide +kernel
theorem dMo_share_34 : decode cMo_share 34 = .ok (.iload_n 3, 1) := by decide +kernel
theorem dMo_share_35 : decode cMo_share 35 = .ok (.i2l, 1) := by decide +kernel
theorem dMo_share_36 : decode cMo_share 36 = .ok (.lconst 0, 1) := by decide +kernel
theorem dMo_share_37 : decode cMo_share 37 = .ok (.lconst 1, 1) := by decide +kernel
theorem dMo_share_38 : decode cMo_share 38 = .ok (.invokestatic 71, 3) := by decide +kernel
theorem dMo_share_41 : decode cMo_share 41 = .ok (.ifCond .ne 7, 3) := by decide +kernel
theorem dMo_share_44 : decode cMo_share 44 = .ok (.ldc2_w 183, 3) := by decide +kernel
theorem dMo_share_47 : decode cMo_share 47 = .ok (.lreturn, 1) := by decide +kernel
theorem dMo_share_48 : decode cMo_share 48 = .ok (.aload_n 0, 1) := by decide +kernel
theorem dMo_share_49 : decode cMo_share 49 = .ok (.invokevirtual 173, 3) := by decide +kernel
theorem dMo_share_52 : decode cMo_share 52 = .ok (.ifCond .eq 7, 3) := by decide +kernel
theorem dMo_share_55 : decode cMo_share 55 = .ok (.ldc2_w 177, 3) := by decide +kernel
theorem dMo_share_58 : decode cMo_share 58 = .ok (.lreturn, 1) := by decide +kernel
theorem dMo_share_59 : decode cMo_share 59 = .ok (.lconst 0, 1) := by decide +kernel
theorem dMo_share_60 : decode cMo_share 60 = .ok (.lstore 4, 2) := by decide +kernel
theorem dMo_share_62 : decode cMo_share 62 = .ok (.lconst 0, 1) := by decide +kernel
theorem dMo_share_63 : decode cMo_share 63 = .ok (.lstore 6, 2) := by decide +kernel
theorem dMo_share_65 : decode cMo_share 65 = .ok (.iconst 0, 1) := by decide +kernel
theorem dMo_share_66 : decode cMo_share 66 = .ok (.istore 8, 2) := by decide +kernel
theorem dMo_share_68 : decode cMo_share 68 = .ok (.iload 8, 2) := by decide +kernel
theorem dMo_share_70 : decode cMo_share 70 = .ok (.aload_n 0, 1) := by decide +kernel
theorem dMo_share_71 : decode cMo_share 71 = .ok (.getfield 58, 3) := by decide +kernel
theorem dMo_share_74 : decode cMo_share 74 = .ok (.if_icmp .ge 45, 3) := by decide +kernel
theorem dMo_share_77 : decode cMo_share 77 = .ok (.aload_n 0, 1) := by decide +kernel
theorem dMo_share_78 : decode cMo_share 78 = .ok (.iload 8, 2) := by decide +kernel
theorem dMo_share_80 : decode cMo_share 80 = .ok (.invokevirtual 169, 3) := by decide +kernel
theorem dMo_share_83 : decode cMo_share 83 = .ok (.lstore 9, 2) := by decide +kernel
theorem dMo_share_85 : decode cMo_share 85 = .ok (.lload 4, 2) := by decide +kernel
theorem dMo_share_87 : decode cMo_share 87 = .ok (.lload 9, 2) := by decide +kernel
theorem dMo_share_89 : decode cMo_share 89 = .ok (.ladd, 1) := by decide +kernel
theorem dMo_share_90 : decode cMo_share 90 = .ok (.lstore 4, 2) := by decide +kernel
theorem dMo_share_92 : decode cMo_share 92 = .ok (.aload_n 0, 1) := by decide +kernel
theorem dMo_share_93 : decode cMo_share 93 = .ok (.iload_n 1, 1) := by decide +kernel
theorem dMo_share_94 : decode cMo_share 94 = .ok (.invokevirtual 166, 3) := by decide +kernel
theorem dMo_share_97 : decode cMo_share 97 = .ok (.iload_n 2, 1) := by decide +kernel
theorem dMo_share_98 : decode cMo_share 98 = .ok (.if_icmp .ne 11, 3) := by decide +kernel
theorem dMo_share_101 : decode cMo_share 101 = .ok (.lload 6, 2) := by decide +kernel
theorem dMo_share_103 : decode cMo_share 103 = .ok (.lload 9, 2) := by decide +kernel
theorem dMo_share_105 : decode cMo_share 105 = .ok (.ladd, 1) := by decide +kernel
theorem dMo_share_106 : decode cMo_share 106 = .ok (.goto 5, 3) := by decide +kernel
theorem dMo_share_109 : decode cMo_share 109 = .ok (.lload 6, 2) := by decide +kernel
theorem dMo_share_111 : decode cMo_share 111 = .ok (.lstore 6, 2) := by decide +kernel
theorem dMo_share_113 : decode cMo_share 113 = .ok (.iinc 8 1, 3) := by decide +kernel
theorem dMo_share_116 : decode cMo_share 116 = .ok (.goto (-48), 3) := by decide +kernel
theorem dMo_share_119 : decode cMo_share 119 = .ok (.lload 4, 2) := by decide +kernel
theorem dMo_share_121 : decode cMo_share 121 = .ok (.lconst 0, 1) := by decide +kernel
theorem dMo_share_122 : decode cMo_share 122 = .ok (.lcmp, 1) := by decide +kernel
theorem dMo_share_123 : decode cMo_share 123 = .ok (.ifCond .ne 7, 3) := by decide +kernel
theorem dMo_share_126 : decode cMo_share 126 = .ok (.ldc2_w 185, 3) := by decide +kernel
theorem dMo_share_129 : decode cMo_share 129 = .ok (.lreturn, 1) := by decide +kernel
theorem dMo_share_130 : decode cMo_share 130 = .ok (.lload 4, 2) := by decide +kernel
theorem dMo_share_132 : decode cMo_share 132 = .ok (.lload 6, 2) := by decide +kernel
theorem dMo_share_134 : decode cMo_share 134 = .ok (.invokestatic 187, 3) := by decide +kernel
theorem dMo_share_137 : decode cMo_share 137 = .ok (.lstore 8, 2) := by decide +kernel
theorem dMo_share_139 : decode cMo_share 139 = .ok (.iload_n 3, 1) := by decide +kernel
theorem dMo_share_140 : decode cMo_share 140 = .ok (.ifCond .ne 11, 3) := by decide +kernel
theorem dMo_share_143 : decode cMo_share 143 = .ok (.lload 6, 2) := by decide +kernel
theorem dMo_share_145 : decode cMo_share 145 = .ok (.lload 8, 2) := by decide +kernel
theorem dMo_share_147 : decode cMo_share 147 = .ok (.ldiv, 1) := by decide +kernel
theorem dMo_share_148 : decode cMo_share 148 = .ok (.goto 8, 3) := by decide +kernel
theorem dMo_share_151 : decode cMo_share 151 = .ok (.lload 4, 2) := by decide +kernel
theorem dMo_share_153 : decode cMo_share 153 = .ok (.lload 8, 2) := by decide +kernel
theorem dMo_share_155 : decode cMo_share 155 = .ok (.ldiv, 1) := by decide +kernel
theorem dMo_share_156 : decode cMo_share 156 = .ok (.lreturn, 1) := by decide +kernel
abbrev cMo_rankAll : ByteArray := prog_9_method_40_code
def yMo_rankAll : MethodName := ⟨RMo, "rankAll", "()V"⟩
theorem dMo_rankAll_0 : decode cMo_rankAll 0 = .ok (.aload_n 0, 1) := by decide +kernel
theorem dMo_rankAll_1 : decode cMo_rankAll 1 = .ok (.iconst 0, 1) := by decide +kernel
theorem dMo_rankAll_2 : decode cMo_rankAll 2 = .ok (.putfield 191, 3) := by decide +kernel
theorem dMo_rankAll_5 : decode cMo_rankAll 5 = .ok (.iconst 0, 1) := by decide +kernel
theorem dMo_rankAll_6 : decode cMo_rankAll 6 = .ok (.istore_n 1, 1) := by decide +kernel
theorem dMo_rankAll_7 : decode cMo_rankAll 7 = .ok (.iload_n 1, 1) := by decide +kernel
theorem dMo_rankAll_8 : decode cMo_rankAll 8 = .ok (.aload_n 0, 1) := by decide +kernel
theorem dMo_rankAll_9 : decode cMo_rankAll 9 = .ok (.getfield 58, 3) := by decide +kernel
theorem dMo_rankAll_12 : decode cMo_rankAll 12 = .ok (.if_icmp .ge 124, 3) := by decide +kernel
theorem dMo_rankAll_15 : decode cMo_rankAll 15 = .ok (.aload_n 0, 1) := by decide +kernel
theorem dMo_rankAll_16 : decode cMo_rankAll 16 = .ok (.iload_n 1, 1) := by decide +kernel
theorem dMo_rankAll_17 : decode cMo_rankAll 17 = .ok (.invokevirtual 169, 3) := by decide +kernel
theorem dMo_rankAll_20 : decode cMo_rankAll 20 = .ok (.lstore_n 2, 1) := by decide +kernel
theorem dMo_rankAll_21 : decode cMo_rankAll 21 = .ok (.lload_n 2, 1) := by decide +kernel
theorem dMo_rankAll_22 : decode cMo_rankAll 22 = .ok (.lconst 0, 1) := by decide +kernel
theorem dMo_rankAll_23 : decode cMo_rankAll 23 = .ok (.lcmp, 1) := by decide +kernel
theorem dMo_rankAll_24 : decode cMo_rankAll 24 = .ok (.ifCond .le 106, 3) := by decide +kernel
theorem dMo_rankAll_27 : decode cMo_rankAll 27 = .ok (.aload_n 0, 1) := by decide +kernel
theorem dMo_rankAll_28 : decode cMo_rankAll 28 = .ok (.getfield 191, 3) := by decide +kernel
theorem dMo_rankAll_31 : decode cMo_rankAll 31 = .ok (.istore 4, 2) := by decide +kernel
theorem dMo_rankAll_33 : decode cMo_rankAll 33 = .ok (.iload 4, 2) := by decide +kernel
theorem dMo_rankAll_35 : decode cMo_rankAll 35 = .ok (.ifCond .le 55, 3) := by decide +kernel
theorem dMo_rankAll_38 : decode cMo_rankAll 38 = .ok (.aload_n 0, 1) := by decide +kernel
theorem dMo_rankAll_39 : decode cMo_rankAll 39 = .ok (.getfield 47, 3) := by decide +kernel
theorem dMo_rankAll_42 : decode cMo_rankAll 42 = .ok (.iload 4, 2) := by decide +kernel
theorem dMo_rankAll_44 : decode cMo_rankAll 44 = .ok (.iconst 1, 1) := by decide +kernel
theorem dMo_rankAll_45 : decode cMo_rankAll 45 = .ok (.isub, 1) := by decide +kernel
theorem dMo_rankAll_46 : decode cMo_rankAll 46 = .ok (.laload, 1) := by decide +kernel
theorem dMo_rankAll_47 : decode cMo_rankAll 47 = .ok (.lload_n 2, 1) := by decide +kernel
theorem dMo_rankAll_48 : decode cMo_rankAll 48 = .ok (.lcmp, 1) := by decide +kernel
theorem dMo_rankAll_49 : decode cMo_rankAll 49 = .ok (.ifCond .ge 41, 3) := by decide +kernel
theorem dMo_rankAll_52 : decode cMo_rankAll 52 = .ok (.aload_n 0, 1) := by decide +kernel
theorem dMo_rankAll_53 : decode cMo_rankAll 53 = .ok (.getfield 47, 3) := by decide +kernel
theorem dMo_rankAll_56 : decode cMo_rankAll 56 = .ok (.iload 4, 2) := by decide +kernel
theorem dMo_rankAll_58 : decode cMo_rankAll 58 = .ok (.aload_n 0, 1) := by decide +kernel
theorem dMo_rankAll_59 : decode cMo_rankAll 59 = .ok (.getfield 47, 3) := by decide +kernel
theorem dMo_rankAll_62 : decode cMo_rankAll 62 = .ok (.iload 4, 2) := by decide +kernel
theorem dMo_rankAll_64 : decode cMo_rankAll 64 = .ok (.iconst 1, 1) := by decide +kernel
theorem dMo_rankAll_65 : decode cMo_rankAll 65 = .ok (.isub, 1) := by decide +kernel
theorem dMo_rankAll_66 : decode cMo_rankAll 66 = .ok (.laload, 1) := by decide +kernel
theorem dMo_rankAll_67 : decode cMo_rankAll 67 = .ok (.lastore, 1) := by decide +kernel
theorem dMo_rankAll_68 : decode cMo_rankAll 68 = .ok (.aload_n 0, 1) := by decide +kernel
theorem dMo_rankAll_69 : decode cMo_rankAll 69 = .ok (.getfield 50, 3) := by decide +kernel
theorem dMo_rankAll_72 : decode cMo_rankAll 72 = .ok (.iload 4, 2) := by decide +kernel
theorem dMo_rankAll_74 : decode cMo_rankAll 74 = .ok (.aload_n 0, 1) := by decide +kernel
theorem dMo_rankAll_75 : decode cMo_rankAll 75 = .ok (.getfield 50, 3) := by decide +kernel
theorem dMo_rankAll_78 : decode cMo_rankAll 78 = .ok (.iload 4, 2) := by decide +kernel
theorem dMo_rankAll_80 : decode cMo_rankAll 80 = .ok (.iconst 1, 1) := by decide +kernel
theorem dMo_rankAll_81 : decode cMo_rankAll 81 = .ok (.isub, 1) := by decide +kernel
theorem dMo_rankAll_82 : decode cMo_rankAll 82 = .ok (.iaload, 1) := by decide +kernel
theorem dMo_rankAll_83 : decode cMo_rankAll 83 = .ok (.iastore, 1) := by decide +kernel
theorem dMo_rankAll_84 : decode cMo_rankAll 84 = .ok (.iinc 4 (-1), 3) := by decide +kernel
theorem dMo_rankAll_87 : decode cMo_rankAll 87 = .ok (.goto (-54), 3) := by decide +kernel
theorem dMo_rankAll_90 : decode cMo_rankAll 90 = .ok (.aload_n 0, 1) := by decide +kernel
theorem dMo_rankAll_91 : decode cMo_rankAll 91 = .ok (.getfield 47, 3) := by decide +kernel
theorem dMo_rankAll_94 : decode cMo_rankAll 94 = .ok (.iload 4, 2) := by decide +kernel
theorem dMo_rankAll_96 : decode cMo_rankAll 96 = .ok (.lload_n 2, 1) := by decide +kernel
theorem dMo_rankAll_97 : decode cMo_rankAll 97 = .ok (.lastore, 1) := by decide +kernel
theorem dMo_rankAll_98 : decode cMo_rankAll 98 = .ok (.aload_n 0, 1) := by decide +kernel
theorem dMo_rankAll_99 : decode cMo_rankAll 99 = .ok (.getfield 50, 3) := by decide +kernel
theorem dMo_rankAll_102 : decode cMo_rankAll 102 = .ok (.iload 4, 2) := by decide +kernel
theorem dMo_rankAll_104 : decode cMo_rankAll 104 = .ok (.iload_n 1, 1) := by decide +kernel
theorem dMo_rankAll_105 : decode cMo_rankAll 105 = .ok (.iastore, 1) := by decide +kernel
theorem dMo_rankAll_106 : decode cMo_rankAll 106 = .ok (.aload_n 0, 1) := by decide +kernel
theorem dMo_rankAll_107 : decode cMo_rankAll 107 = .ok (.aload_n 0, 1) := by decide +kernel
theorem dMo_rankAll_108 : decode cMo_rankAll 108 = .ok (.getfield 191, 3) := by decide +kernel
theorem dMo_rankAll_111 : decode cMo_rankAll 111 = .ok (.bipush 24, 2) := by decide +kernel
theorem dMo_rankAll_113 : decode cMo_rankAll 113 = .ok (.if_icmp .ge 12, 3) := by decide +kernel
theorem dMo_rankAll_116 : decode cMo_rankAll 116 = .ok (.aload_n 0, 1) := by decide +kernel
theorem dMo_rankAll_117 : decode cMo_rankAll 117 = .ok (.getfield 191, 3) := by decide +kernel
theorem dMo_rankAll_120 : decode cMo_rankAll 120 = .ok (.iconst 1, 1) := by decide +kernel
theorem dMo_rankAll_121 : decode cMo_rankAll 121 = .ok (.iadd, 1) := by decide +kernel
theorem dMo_rankAll_122 : decode cMo_rankAll 122 = .ok (.goto 5, 3) := by decide +kernel
theorem dMo_rankAll_125 : decode cMo_rankAll 125 = .ok (.bipush 24, 2) := by decide +kernel
theorem dMo_rankAll_127 : decode cMo_rankAll 127 = .ok (.putfield 191, 3) := by decide +kernel
theorem dMo_rankAll_130 : decode cMo_rankAll 130 = .ok (.iinc 1 1, 3) := by decide +kernel
theorem dMo_rankAll_133 : decode cMo_rankAll 133 = .ok (.goto (-126), 3) := by decide +kernel
theorem dMo_rankAll_136 : decode cMo_rankAll 136 = .ok (.return_, 1) := by decide +kernel
abbrev cMo_greatest : ByteArray := prog_9_method_41_code
def yMo_greatest : MethodName := ⟨RMo, "greatest", "()J"⟩
theorem dMo_greatest_0 : decode cMo_greatest 0 = .ok (.aload_n 0, 1) := by decide +kernel
theorem dMo_greatest_1 : decode cMo_greatest 1 = .ok (.iconst 0, 1) := by decide +kernel
theorem dMo_greatest_2 : decode cMo_greatest 2 = .ok (.putfield 65, 3) := by decide +kernel
theorem dMo_greatest_5 : decode cMo_greatest 5 = .ok (.aload_n 0, 1) := by decide +kernel
theorem dMo_greatest_6 : decode cMo_greatest 6 = .ok (.invokevirtual 173, 3) := by decide +kernel
theorem dMo_greatest_9 : decode cMo_greatest 9 = .ok (.ifCond .eq 7, 3) := by decide +kernel
theorem dMo_greatest_12 : decode cMo_greatest 12 = .ok (.ldc2_w 177, 3) := by decide +kernel
theorem dMo_greatest_15 : decode cMo_greatest 15 = .ok (.lreturn, 1) := by decide +kernel
theorem dMo_greatest_16 : decode cMo_greatest 16 = .ok (.aload_n 0, 1) := by decide +kernel
theorem dMo_greatest_17 : decode cMo_greatest 17 = .ok (.invokevirtual 194, 3) := by decide +kernel
theorem dMo_greatest_20 : decode cMo_greatest 20 = .ok (.aload_n 0, 1) := by decide +kernel
theorem dMo_greatest_21 : decode cMo_greatest 21 = .ok (.getfield 191, 3) := by decide +kernel
theorem dMo_greatest_24 : decode cMo_greatest 24 = .ok (.ifCond .ne 7, 3) := by decide +kernel
theorem dMo_greatest_27 : decode cMo_greatest 27 = .ok (.lconst 0, 1) := by decide +kernel
theorem dMo_greatest_28 : decode cMo_greatest 28 = .ok (.goto 9, 3) := by decide +kernel
theorem dMo_greatest_31 : decode cMo_greatest 31 = .ok (.aload_n 0, 1) := by decide +kernel
theorem dMo_greatest_32 : decode cMo_greatest 32 = .ok (.getfield 47, 3) := by decide +kernel
theorem dMo_greatest_35 : decode cMo_greatest 35 = .ok (.iconst 0, 1) := by decide +kernel
theorem dMo_greatest_36 : decode cMo_greatest 36 = .ok (.laload, 1) := by decide +kernel
theorem dMo_greatest_37 : decode cMo_greatest 37 = .ok (.lreturn, 1) := by decide +kernel
abbrev cMo_best : ByteArray := prog_9_method_42_code
def yMo_best : MethodName := ⟨RMo, "best", "(I)I"⟩
theorem dMo_best_0 : decode cMo_best 0 = .ok (.aload_n 0, 1) := by decide +kernel
theorem dMo_best_1 : decode cMo_best 1 = .ok (.iconst 0, 1) := by decide +kernel
theorem dMo_best_2 : decode cMo_best 2 = .ok (.putfield 65, 3) := by decide +kernel
theorem dMo_best_5 : decode cMo_best 5 = .ok (.aload_n 0, 1) := by decide +kernel
theorem dMo_best_6 : decode cMo_best 6 = .ok (.iload_n 1, 1) := by decide +kernel
theorem dMo_best_7 : decode cMo_best 7 = .ok (.invokevirtual 104, 3) := by decide +kernel
theorem dMo_best_10 : decode cMo_best 10 = .ok (.ifCond .ne 5, 3) := by decide +kernel
theorem dMo_best_13 : decode cMo_best 13 = .ok (.iconst (-1), 1) := by decide +kernel
theorem dMo_best_14 : decode cMo_best 14 = .ok (.ireturn, 1) := by decide +kernel
theorem dMo_best_15 : decode cMo_best 15 = .ok (.aload_n 0, 1) := by decide +kernel
theorem dMo_best_16 : decode cMo_best 16 = .ok (.invokevirtual 173, 3) := by decide +kernel
theorem dMo_best_19 : decode cMo_best 19 = .ok (.ifCond .eq 6, 3) := by decide +kernel
theorem dMo_best_22 : decode cMo_best 22 = .ok (.bipush (-4), 2) := by decide +kernel
theorem dMo_best_24 : decode cMo_best 24 = .ok (.ireturn, 1) := by decide +kernel
theorem dMo_best_25 : decode cMo_best 25 = .ok (.aload_n 0, 1) := by decide +kernel
theorem dMo_best_26 : decode cMo_best 26 = .ok (.invokevirtual 194, 3) := by decide +kernel
theorem dMo_best_29 : decode cMo_best 29 = .ok (.aload_n 0, 1) := by decide +kernel
theorem dMo_best_30 : decode cMo_best 30 = .ok (.getfield 191, 3) := by decide +kernel
theorem dMo_best_33 : decode cMo_best 33 = .ok (.ifCond .ne 6, 3) := by decide +kernel
theorem dMo_best_36 : decode cMo_best 36 = .ok (.bipush (-3), 2) := by decide +kernel
theorem dMo_best_38 : decode cMo_best 38 = .ok (.ireturn, 1) := by decide +kernel
theorem dMo_best_39 : decode cMo_best 39 = .ok (.aload_n 0, 1) := by decide +kernel
theorem dMo_best_40 : decode cMo_best 40 = .ok (.aload_n 0, 1) := by decide +kernel
theorem dMo_best_41 : decode cMo_best 41 = .ok (.getfield 50, 3) := by decide +kernel
theorem dMo_best_44 : decode cMo_best 44 = .ok (.iconst 0, 1) := by decide +kernel
theorem dMo_best_45 : decode cMo_best 45 = .ok (.iaload, 1) := by decide +kernel
theorem dMo_best_46 : decode cMo_best 46 = .ok (.invokevirtual 163, 3) := by decide +kernel
theorem dMo_best_49 : decode cMo_best 49 = .ok (.aload_n 0, 1) := by decide +kernel
theorem dMo_best_50 : decode cMo_best 50 = .ok (.getfield 44, 3) := by decide +kernel
theorem dMo_best_53 : decode cMo_best 53 = .ok (.iload_n 1, 1) := by decide +kernel
theorem dMo_best_54 : decode cMo_best 54 = .ok (.iaload, 1) := by decide +kernel
theorem dMo_best_55 : decode cMo_best 55 = .ok (.ireturn, 1) := by decide +kernel
abbrev cMo_rank : ByteArray := prog_9_method_43_code
def yMo_rank : MethodName := ⟨RMo, "rank", "(II)J"⟩
theorem dMo_rank_0 : decode cMo_rank 0 = .ok (.aload_n 0, 1) := by decide +kernel
theorem dMo_rank_1 : decode cMo_rank 1 = .ok (.iconst 0, 1) := by decide +kernel
theorem dMo_rank_2 : decode cMo_rank 2 = .ok (.putfield 65, 3) := by decide +kernel
theorem dMo_rank_5 : decode cMo_rank 5 = .ok (.iload_n 2, 1) := by decide +kernel
theorem dMo_rank_6 : decode cMo_rank 6 = .ok (.iconst (-1), 1) := by decide +kernel
theorem dMo_rank_7 : decode cMo_rank 7 = .ok (.if_icmp .eq 15, 3) := by decide +kernel
theorem dMo_rank_10 : decode cMo_rank 10 = .ok (.aload_n 0, 1) := by decide +kernel
theorem dMo_rank_11 : decode cMo_rank 11 = .ok (.iload_n 2, 1) := by decide +kernel
theorem dMo_rank_12 : decode cMo_rank 12 = .ok (.invokevirtual 104, 3) := by decide +kernel
theorem dMo_rank_15 : decode cMo_rank 15 = .ok (.ifCond .ne 7, 3) := by decide +kernel
theorem dMo_rank_18 : decode cMo_rank 18 = .ok (.ldc2_w 107, 3) := by decide +kernel
theorem dMo_rank_21 : decode cMo_rank 21 = .ok (.lreturn, 1) := by decide +kernel
theorem dMo_rank_22 : decode cMo_rank 22 = .ok (.iload_n 1, 1) := by decide +kernel
theorem dMo_rank_23 : decode cMo_rank 23 = .ok (.i2l, 1) := by decide +kernel
theorem dMo_rank_24 : decode cMo_rank 24 = .ok (.lconst 0, 1) := by decide +kernel
theorem dMo_rank_25 : decode cMo_rank 25 = .ok (.ldc2_w 197, 3) := by decide +kernel
theorem dMo_rank_28 : decode cMo_rank 28 = .ok (.invokestatic 71, 3) := by decide +kernel
theorem dMo_rank_31 : decode cMo_rank 31 = .ok (.ifCond .ne 7, 3) := by decide +kernel
theorem dMo_rank_34 : decode cMo_rank 34 = .ok (.ldc2_w 183, 3) := by decide +kernel
theorem dMo_rank_37 : decode cMo_rank 37 = .ok (.lreturn, 1) := by decide +kernel
theorem dMo_rank_38 : decode cMo_rank 38 = .ok (.aload_n 0, 1) := by decide +kernel
theorem dMo_rank_39 : decode cMo_rank 39 = .ok (.invokevirtual 173, 3) := by decide +kernel
theorem dMo_rank_42 : decode cMo_rank 42 = .ok (.ifCond .eq 7, 3) := by decide +kernel
theorem dMo_rank_45 : decode cMo_rank 45 = .ok (.ldc2_w 177, 3) := by decide +kernel
theorem dMo_rank_48 : decode cMo_rank 48 = .ok (.lreturn, 1) := by decide +kernel
theorem dMo_rank_49 : decode cMo_rank 49 = .ok (.aload_n 0, 1) := by decide +kernel
theorem dMo_rank_50 : decode cMo_rank 50 = .ok (.invokevirtual 194, 3) := by decide +kernel
theorem dMo_rank_53 : decode cMo_rank 53 = .ok (.iload_n 1, 1) := by decide +kernel
theorem dMo_rank_54 : decode cMo_rank 54 = .ok (.aload_n 0, 1) := by decide +kernel
theorem dMo_rank_55 : decode cMo_rank 55 = .ok (.getfield 191, 3) := by decide +kernel
theorem dMo_rank_58 : decode cMo_rank 58 = .ok (.if_icmp .lt 7, 3) := by decide +kernel
theorem dMo_rank_61 : decode cMo_rank 61 = .ok (.ldc2_w 185, 3) := by decide +kernel
theorem dMo_rank_64 : decode cMo_rank 64 = .ok (.lreturn, 1) := by decide +kernel
theorem dMo_rank_65 : decode cMo_rank 65 = .ok (.iload_n 2, 1) := by decide +kernel
theorem dMo_rank_66 : decode cMo_rank 66 = .ok (.iconst (-1), 1) := by decide +kernel
theorem dMo_rank_67 : decode cMo_rank 67 = .ok (.if_icmp .ne 10, 3) := by decide +kernel
theorem dMo_rank_70 : decode cMo_rank 70 = .ok (.aload_n 0, 1) := by decide +kernel
theorem dMo_rank_71 : decode cMo_rank 71 = .ok (.getfield 47, 3) := by decide +kernel
theorem dMo_rank_74 : decode cMo_rank 74 = .ok (.iload_n 1, 1) := by decide +kernel
theorem dMo_rank_75 : decode cMo_rank 75 = .ok (.laload, 1) := by decide +kernel
theorem dMo_rank_76 : decode cMo_rank 76 = .ok (.lreturn, 1) := by decide +kernel
theorem dMo_rank_77 : decode cMo_rank 77 = .ok (.aload_n 0, 1) := by decide +kernel
theorem dMo_rank_78 : decode cMo_rank 78 = .ok (.aload_n 0, 1) := by decide +kernel
theorem dMo_rank_79 : decode cMo_rank 79 = .ok (.getfield 50, 3) := by decide +kernel
theorem dMo_rank_82 : decode cMo_rank 82 = .ok (.iload_n 1, 1) := by decide +kernel
theorem dMo_rank_83 : decode cMo_rank 83 = .ok (.iaload, 1) := by decide +kernel
theorem dMo_rank_84 : decode cMo_rank 84 = .ok (.invokevirtual 163, 3) := by decide +kernel
theorem dMo_rank_87 : decode cMo_rank 87 = .ok (.aload_n 0, 1) := by decide +kernel
theorem dMo_rank_88 : decode cMo_rank 88 = .ok (.getfield 44, 3) := by decide +kernel
theorem dMo_rank_91 : decode cMo_rank 91 = .ok (.iload_n 2, 1) := by decide +kernel
theorem dMo_rank_92 : decode cMo_rank 92 = .ok (.iaload, 1) := by decide +kernel
theorem dMo_rank_93 : decode cMo_rank 93 = .ok (.i2l, 1) := by decide +kernel
theorem dMo_rank_94 : decode cMo_rank 94 = .ok (.lreturn, 1) := by decide +kernel
abbrev cMo_support : ByteArray := prog_9_method_44_code
def yMo_support : MethodName := ⟨RMo, "support", "()I"⟩
theorem dMo_support_0 : decode cMo_support 0 = .ok (.aload_n 0, 1) := by decide +kernel
theorem dMo_support_1 : decode cMo_support 1 = .ok (.iconst 0, 1) := by decide +kernel
theorem dMo_support_2 : decode cMo_support 2 = .ok (.putfield 65, 3) := by decide +kernel
theorem dMo_support_5 : decode cMo_support 5 = .ok (.aload_n 0, 1) := by decide +kernel
theorem dMo_support_6 : decode cMo_support 6 = .ok (.invokevirtual 173, 3) := by decide +kernel
theorem dMo_support_9 : decode cMo_support 9 = .ok (.ifCond .eq 6, 3) := by decide +kernel
theorem dMo_support_12 : decode cMo_support 12 = .ok (.bipush (-4), 2) := by decide +kernel
theorem dMo_support_14 : decode cMo_support 14 = .ok (.ireturn, 1) := by decide +kernel
theorem dMo_support_15 : decode cMo_support 15 = .ok (.iconst 0, 1) := by decide +kernel
theorem dMo_support_16 : decode cMo_support 16 = .ok (.istore_n 1, 1) := by decide +kernel
theorem dMo_support_17 : decode cMo_support 17 = .ok (.iconst 0, 1) := by decide +kernel
theorem dMo_support_18 : decode cMo_support 18 = .ok (.istore_n 2, 1) := by decide +kernel
theorem dMo_support_19 : decode cMo_support 19 = .ok (.iload_n 2, 1) := by decide +kernel
theorem dMo_support_20 : decode cMo_support 20 = .ok (.aload_n 0, 1) := by decide +kernel
theorem dMo_support_21 : decode cMo_support 21 = .ok (.getfield 58, 3) := by decide +kernel
theorem dMo_support_24 : decode cMo_support 24 = .ok (.if_icmp .ge 27, 3) := by decide +kernel
theorem dMo_support_27 : decode cMo_support 27 = .ok (.aload_n 0, 1) := by decide +kernel
theorem dMo_support_28 : decode cMo_support 28 = .ok (.iload_n 2, 1) := by decide +kernel
theorem dMo_support_29 : decode cMo_support 29 = .ok (.invokevirtual 169, 3) := by decide +kernel
theorem dMo_support_32 : decode cMo_support 32 = .ok (.lconst 0, 1) := by decide +kernel
theorem dMo_support_33 : decode cMo_support 33 = .ok (.lcmp, 1) := by decide +kernel
theorem dMo_support_34 : decode cMo_support 34 = .ok (.ifCond .le 9, 3) := by decide +kernel
theorem dMo_support_37 : decode cMo_support 37 = .ok (.iload_n 1, 1) := by decide +kernel
theorem dMo_support_38 : decode cMo_support 38 = .ok (.iconst 1, 1) := by decide +kernel
theorem dMo_support_39 : decode cMo_support 39 = .ok (.iadd, 1) := by decide +kernel
theorem dMo_support_40 : decode cMo_support 40 = .ok (.goto 4, 3) := by decide +kernel
theorem dMo_support_43 : decode cMo_support 43 = .ok (.iload_n 1, 1) := by decide +kernel
theorem dMo_support_44 : decode cMo_support 44 = .ok (.istore_n 1, 1) := by decide +kernel
theorem dMo_support_45 : decode cMo_support 45 = .ok (.iinc 2 1, 3) := by decide +kernel
theorem dMo_support_48 : decode cMo_support 48 = .ok (.goto (-29), 3) := by decide +kernel
theorem dMo_support_51 : decode cMo_support 51 = .ok (.iload_n 1, 1) := by decide +kernel
theorem dMo_support_52 : decode cMo_support 52 = .ok (.ireturn, 1) := by decide +kernel
abbrev cMo_among : ByteArray := prog_9_method_45_code
def yMo_among : MethodName := ⟨RMo, "among", "(II)I"⟩
theorem dMo_among_0 : decode cMo_among 0 = .ok (.aload_n 0, 1) := by decide +kernel
theorem dMo_among_1 : decode cMo_among 1 = .ok (.iconst 0, 1) := by decide +kernel
theorem dMo_among_2 : decode cMo_among 2 = .ok (.putfield 65, 3) := by decide +kernel
theorem dMo_among_5 : decode cMo_among 5 = .ok (.aload_n 0, 1) := by decide +kernel
theorem dMo_among_6 : decode cMo_among 6 = .ok (.iload_n 1, 1) := by decide +kernel
theorem dMo_among_7 : decode cMo_among 7 = .ok (.invokevirtual 104, 3) := by decide +kernel
theorem dMo_among_10 : decode cMo_among 10 = .ok (.ifCond .ne 5, 3) := by decide +kernel
theorem dMo_among_13 : decode cMo_among 13 = .ok (.iconst (-1), 1) := by decide +kernel
theorem dMo_among_14 : decode cMo_among 14 = .ok (.ireturn, 1) := by decide +kernel
theorem dMo_among_15 : decode cMo_among 15 = .ok (.iload_n 2, 1) := by decide +kernel
theorem dMo_among_16 : decode cMo_among 16 = .ok (.i2l, 1) := by decide +kernel
theorem dMo_among_17 : decode cMo_among 17 = .ok (.lconst 0, 1) := by decide +kernel
theorem dMo_among_18 : decode cMo_among 18 = .ok (.aload_n 0, 1) := by decide +kernel
theorem dMo_among_19 : decode cMo_among 19 = .ok (.getfield 7, 3) := by decide +kernel
theorem dMo_among_22 : decode cMo_among 22 = .ok (.iload_n 1, 1) := by decide +kernel
theorem dMo_among_23 : decode cMo_among 23 = .ok (.iaload, 1) := by decide +kernel
theorem dMo_among_24 : decode cMo_among 24 = .ok (.iconst 1, 1) := by decide +kernel
theorem dMo_among_25 : decode cMo_among 25 = .ok (.isub, 1) := by decide +kernel
theorem dMo_among_26 : decode cMo_among 26 = .ok (.i2l, 1) := by decide +kernel
theorem dMo_among_27 : decode cMo_among 27 = .ok (.invokestatic 71, 3) := by decide +kernel
theorem dMo_among_30 : decode cMo_among 30 = .ok (.ifCond .ne 6, 3) := by decide +kernel
theorem dMo_among_33 : decode cMo_among 33 = .ok (.bipush (-2), 2) := by decide +kernel
theorem dMo_among_35 : decode cMo_among 35 = .ok (.ireturn, 1) := by decide +kernel
theorem dMo_among_36 : decode cMo_among 36 = .ok (.aload_n 0, 1) := by decide +kernel
theorem dMo_among_37 : decode cMo_among 37 = .ok (.invokevirtual 173, 3) := by decide +kernel
theorem dMo_among_40 : decode cMo_among 40 = .ok (.ifCond .eq 6, 3) := by decide +kernel
theorem dMo_among_43 : decode cMo_among 43 = .ok (.bipush (-4), 2) := by decide +kernel
theorem dMo_among_45 : decode cMo_among 45 = .ok (.ireturn, 1) := by decide +kernel
theorem dMo_among_46 : decode cMo_among 46 = .ok (.iconst 0, 1) := by decide +kernel
theorem dMo_among_47 : decode cMo_among 47 = .ok (.istore_n 3, 1) := by decide +kernel
theorem dMo_among_48 : decode cMo_among 48 = .ok (.iconst 0, 1) := by decide +kernel
theorem dMo_among_49 : decode cMo_among 49 = .ok (.istore 4, 2) := by decide +kernel
theorem dMo_among_51 : decode cMo_among 51 = .ok (.iload 4, 2) := by decide +kernel
theorem dMo_among_53 : decode cMo_among 53 = .ok (.aload_n 0, 1) := by decide +kernel
theorem dMo_among_54 : decode cMo_among 54 = .ok (.getfield 58, 3) := by decide +kernel
theorem dMo_among_57 : decode cMo_among 57 = .ok (.if_icmp .ge 38, 3) := by decide +kernel
theorem dMo_among_60 : decode cMo_among 60 = .ok (.aload_n 0, 1) := by decide +kernel
theorem dMo_among_61 : decode cMo_among 61 = .ok (.iload 4, 2) := by decide +kernel
theorem dMo_among_63 : decode cMo_among 63 = .ok (.invokevirtual 169, 3) := by decide +kernel
theorem dMo_among_66 : decode cMo_among 66 = .ok (.lconst 0, 1) := by decide +kernel
theorem dMo_among_67 : decode cMo_among 67 = .ok (.lcmp, 1) := by decide +kernel
theorem dMo_among_68 : decode cMo_among 68 = .ok (.ifCond .le 19, 3) := by decide +kernel
theorem dMo_among_71 : decode cMo_among 71 = .ok (.aload_n 0, 1) := by decide +kernel
theorem dMo_among_72 : decode cMo_among 72 = .ok (.getfield 44, 3) := by decide +kernel
theorem dMo_among_75 : decode cMo_among 75 = .ok (.iload_n 1, 1) := by decide +kernel
theorem dMo_among_76 : decode cMo_among 76 = .ok (.iaload, 1) := by decide +kernel
theorem dMo_among_77 : decode cMo_among 77 = .ok (.iload_n 2, 1) := by decide +kernel
theorem dMo_among_78 : decode cMo_among 78 = .ok (.if_icmp .ne 9, 3) := by decide +kernel
theorem dMo_among_81 : decode cMo_among 81 = .ok (.iload_n 3, 1) := by decide +kernel
theorem dMo_among_82 : decode cMo_among 82 = .ok (.iconst 1, 1) := by decide +kernel
theorem dMo_among_83 : decode cMo_among 83 = .ok (.iadd, 1) := by decide +kernel
theorem dMo_among_84 : decode cMo_among 84 = .ok (.goto 4, 3) := by decide +kernel
theorem dMo_among_87 : decode cMo_among 87 = .ok (.iload_n 3, 1) := by decide +kernel
theorem dMo_among_88 : decode cMo_among 88 = .ok (.istore_n 3, 1) := by decide +kernel
theorem dMo_among_89 : decode cMo_among 89 = .ok (.iinc 4 1, 3) := by decide +kernel
theorem dMo_among_92 : decode cMo_among 92 = .ok (.goto (-41), 3) := by decide +kernel
theorem dMo_among_95 : decode cMo_among 95 = .ok (.iload_n 3, 1) := by decide +kernel
theorem dMo_among_96 : decode cMo_among 96 = .ok (.ireturn, 1) := by decide +kernel
abbrev cMo_drawn : ByteArray := prog_9_method_46_code
def yMo_drawn : MethodName := ⟨RMo, "drawn", "(JI)I"⟩
theorem dMo_drawn_0 : decode cMo_drawn 0 = .ok (.aload_n 0, 1) := by decide +kernel
theorem dMo_drawn_1 : decode cMo_drawn 1 = .ok (.iconst 0, 1) := by decide +kernel
theorem dMo_drawn_2 : decode cMo_drawn 2 = .ok (.putfield 65, 3) := by decide +kernel
theorem dMo_drawn_5 : decode cMo_drawn 5 = .ok (.aload_n 0, 1) := by decide +kernel
theorem dMo_drawn_6 : decode cMo_drawn 6 = .ok (.iload_n 3, 1) := by decide +kernel
theorem dMo_drawn_7 : decode cMo_drawn 7 = .ok (.invokevirtual 104, 3) := by decide +kernel
theorem dMo_drawn_10 : decode cMo_drawn 10 = .ok (.ifCond .ne 5, 3) := by decide +kernel
theorem dMo_drawn_13 : decode cMo_drawn 13 = .ok (.iconst (-1), 1) := by decide +kernel
theorem dMo_drawn_14 : decode cMo_drawn 14 = .ok (.ireturn, 1) := by decide +kernel
theorem dMo_drawn_15 : decode cMo_drawn 15 = .ok (.lload_n 1, 1) := by decide +kernel
theorem dMo_drawn_16 : decode cMo_drawn 16 = .ok (.lconst 0, 1) := by decide +kernel
theorem dMo_drawn_17 : decode cMo_drawn 17 = .ok (.lcmp, 1) := by decide +kernel
theorem dMo_drawn_18 : decode cMo_drawn 18 = .ok (.ifCond .ge 6, 3) := by decide +kernel
theorem dMo_drawn_21 : decode cMo_drawn 21 = .ok (.bipush (-2), 2) := by decide +kernel
theorem dMo_drawn_23 : decode cMo_drawn 23 = .ok (.ireturn, 1) := by decide +kernel
theorem dMo_drawn_24 : decode cMo_drawn 24 = .ok (.aload_n 0, 1) := by decide +kernel
theorem dMo_drawn_25 : decode cMo_drawn 25 = .ok (.invokevirtual 173, 3) := by decide +kernel
theorem dMo_drawn_28 : decode cMo_drawn 28 = .ok (.ifCond .eq 6, 3) := by decide +kernel
theorem dMo_drawn_31 : decode cMo_drawn 31 = .ok (.bipush (-4), 2) := by decide +kernel
theorem dMo_drawn_33 : decode cMo_drawn 33 = .ok (.ireturn, 1) := by decide +kernel
theorem dMo_drawn_34 : decode cMo_drawn 34 = .ok (.aload_n 0, 1) := by decide +kernel
theorem dMo_drawn_35 : decode cMo_drawn 35 = .ok (.invokevirtual 179, 3) := by decide +kernel
theorem dMo_drawn_38 : decode cMo_drawn 38 = .ok (.lload_n 1, 1) := by decide +kernel
theorem dMo_drawn_39 : decode cMo_drawn 39 = .ok (.lcmp, 1) := by decide +kernel
theorem dMo_drawn_40 : decode cMo_drawn 40 = .ok (.ifCond .gt 6, 3) := by decide +kernel
theorem dMo_drawn_43 : decode cMo_drawn 43 = .ok (.bipush (-3), 2) := by decide +kernel
theorem dMo_drawn_45 : decode cMo_drawn 45 = .ok (.ireturn, 1) := by decide +kernel
theorem dMo_drawn_46 : decode cMo_drawn 46 = .ok (.lconst 0, 1) := by decide +kernel
theorem dMo_drawn_47 : decode cMo_drawn 47 = .ok (.lstore 4, 2) := by decide +kernel
theorem dMo_drawn_49 : decode cMo_drawn 49 = .ok (.iconst (-1), 1) := by decide +kernel
theorem dMo_drawn_50 : decode cMo_drawn 50 = .ok (.istore 6, 2) := by decide +kernel
theorem dMo_drawn_52 : decode cMo_drawn 52 = .ok (.lload 4, 2) := by decide +kernel
theorem dMo_drawn_54 : decode cMo_drawn 54 = .ok (.lload_n 1, 1) := by decide +kernel
theorem dMo_drawn_55 : decode cMo_drawn 55 = .ok (.lcmp, 1) := by decide +kernel
theorem dMo_drawn_56 : decode cMo_drawn 56 = .ok (.ifCond .gt 20, 3) := by decide +kernel
theorem dMo_drawn_59 : decode cMo_drawn 59 = .ok (.iinc 6 1, 3) := by decide +kernel
theorem dMo_drawn_62 : decode cMo_drawn 62 = .ok (.lload 4, 2) := by decide +kernel
theorem dMo_drawn_64 : decode cMo_drawn 64 = .ok (.aload_n 0, 1) := by decide +kernel
theorem dMo_drawn_65 : decode cMo_drawn 65 = .ok (.iload 6, 2) := by decide +kernel
theorem dMo_drawn_67 : decode cMo_drawn 67 = .ok (.invokevirtual 169, 3) := by decide +kernel
theorem dMo_drawn_70 : decode cMo_drawn 70 = .ok (.ladd, 1) := by decide +kernel
theorem dMo_drawn_71 : decode cMo_drawn 71 = .ok (.lstore 4, 2) := by decide +kernel
theorem dMo_drawn_73 : decode cMo_drawn 73 = .ok (.goto (-21), 3) := by decide +kernel
theorem dMo_drawn_76 : decode cMo_drawn 76 = .ok (.aload_n 0, 1) := by decide +kernel
theorem dMo_drawn_77 : decode cMo_drawn 77 = .ok (.iload 6, 2) := by decide +kernel
theorem dMo_drawn_79 : decode cMo_drawn 79 = .ok (.invokevirtual 163, 3) := by decide +kernel
theorem dMo_drawn_82 : decode cMo_drawn 82 = .ok (.aload_n 0, 1) := by decide +kernel
theorem dMo_drawn_83 : decode cMo_drawn 83 = .ok (.getfield 44, 3) := by decide +kernel
theorem dMo_drawn_86 : decode cMo_drawn 86 = .ok (.iload_n 3, 1) := by decide +kernel
theorem dMo_drawn_87 : decode cMo_drawn 87 = .ok (.iaload, 1) := by decide +kernel
theorem dMo_drawn_88 : decode cMo_drawn 88 = .ok (.ireturn, 1) := by decide +kernel
abbrev cMo_apart : ByteArray := prog_9_method_47_code
def yMo_apart : MethodName := ⟨RMo, "apart", "(III)I"⟩
theorem dMo_apart_0 : decode cMo_apart 0 = .ok (.aload_n 0, 1) := by decide +kernel
theorem dMo_apart_1 : decode cMo_apart 1 = .ok (.iconst 0, 1) := by decide +kernel
theorem dMo_apart_2 : decode cMo_apart 2 = .ok (.putfield 65, 3) := by decide +kernel
theorem dMo_apart_5 : decode cMo_apart 5 = .ok (.aload_n 0, 1) := by decide +kernel
theorem dMo_apart_6 : decode cMo_apart 6 = .ok (.iload_n 1, 1) := by decide +kernel
theorem dMo_apart_7 : decode cMo_apart 7 = .ok (.invokevirtual 104, 3) := by decide +kernel
theorem dMo_apart_10 : decode cMo_apart 10 = .ok (.ifCond .eq 19, 3) := by decide +kernel
theorem dMo_apart_13 : decode cMo_apart 13 = .ok (.aload_n 0, 1) := by decide +kernel
theorem dMo_apart_14 : decode cMo_apart 14 = .ok (.iload_n 2, 1) := by decide +kernel
theorem dMo_apart_15 : decode cMo_apart 15 = .ok (.invokevirtual 104, 3) := by decide +kernel
theorem dMo_apart_18 : decode cMo_apart 18 = .ok (.ifCond .eq 11, 3) := by decide +kernel
theorem dMo_apart_21 : decode cMo_apart 21 = .ok (.aload_n 0, 1) := by decide +kernel
theorem dMo_apart_22 : decode cMo_apart 22 = .ok (.iload_n 3, 1) := by decide +kernel
theorem dMo_apart_23 : decode cMo_apart 23 = .ok (.invokevirtual 82, 3) := by decide +kernel
theorem dMo_apart_26 : decode cMo_apart 26 = .ok (.ifCond .ne 5, 3) := by decide +kernel
theorem dMo_apart_29 : decode cMo_apart 29 = .ok (.iconst (-1), 1) := by decide +kernel
theorem dMo_apart_30 : decode cMo_apart 30 = .ok (.ireturn, 1) := by decide +kernel
theorem dMo_apart_31 : decode cMo_apart 31 = .ok (.iload_n 3, 1) := by decide +kernel
theorem dMo_apart_32 : decode cMo_apart 32 = .ok (.iload_n 1, 1) := by decide +kernel
theorem dMo_apart_33 : decode cMo_apart 33 = .ok (.ishr, 1) := by decide +kernel
theorem dMo_apart_34 : decode cMo_apart 34 = .ok (.iconst 1, 1) := by decide +kernel
theorem dMo_apart_35 : decode cMo_apart 35 = .ok (.iand, 1) := by decide +kernel
theorem dMo_apart_36 : decode cMo_apart 36 = .ok (.iconst 1, 1) := by decide +kernel
theorem dMo_apart_37 : decode cMo_apart 37 = .ok (.if_icmp .eq 12, 3) := by decide +kernel
theorem dMo_apart_40 : decode cMo_apart 40 = .ok (.iload_n 3, 1) := by decide +kernel
theorem dMo_apart_41 : decode cMo_apart 41 = .ok (.iload_n 2, 1) := by decide +kernel
theorem dMo_apart_42 : decode cMo_apart 42 = .ok (.ishr, 1) := by decide +kernel
theorem dMo_apart_43 : decode cMo_apart 43 = .ok (.iconst 1, 1) := by decide +kernel
theorem dMo_apart_44 : decode cMo_apart 44 = .ok (.iand, 1) := by decide +kernel
theorem dMo_apart_45 : decode cMo_apart 45 = .ok (.iconst 1, 1) := by decide +kernel
theorem dMo_apart_46 : decode cMo_apart 46 = .ok (.if_icmp .ne 5, 3) := by decide +kernel
theorem dMo_apart_49 : decode cMo_apart 49 = .ok (.iconst 1, 1) := by decide +kernel
theorem dMo_apart_50 : decode cMo_apart 50 = .ok (.ireturn, 1) := by decide +kernel
theorem dMo_apart_51 : decode cMo_apart 51 = .ok (.aload_n 0, 1) := by decide +kernel
theorem dMo_apart_52 : decode cMo_apart 52 = .ok (.invokevirtual 130, 3) := by decide +kernel
theorem dMo_apart_55 : decode cMo_apart 55 = .ok (.iconst 1, 1) := by decide +kernel
theorem dMo_apart_56 : decode cMo_apart 56 = .ok (.iload_n 1, 1) := by decide +kernel
theorem dMo_apart_57 : decode cMo_apart 57 = .ok (.ishl, 1) := by decide +kernel
theorem dMo_apart_58 : decode cMo_apart 58 = .ok (.istore 4, 2) := by decide +kernel
theorem dMo_apart_60 : decode cMo_apart 60 = .ok (.iconst 1, 1) := by decide +kernel
theorem dMo_apart_61 : decode cMo_apart 61 = .ok (.istore 5, 2) := by decide +kernel
theorem dMo_apart_63 : decode cMo_apart 63 = .ok (.iload 5, 2) := by decide +kernel
theorem dMo_apart_65 : decode cMo_apart 65 = .ok (.ifCond .eq 78, 3) := by decide +kernel
theorem dMo_apart_68 : decode cMo_apart 68 = .ok (.iload 4, 2) := by decide +kernel
theorem dMo_apart_70 : decode cMo_apart 70 = .ok (.istore 6, 2) := by decide +kernel
theorem dMo_apart_72 : decode cMo_apart 72 = .ok (.iconst 0, 1) := by decide +kernel
theorem dMo_apart_73 : decode cMo_apart 73 = .ok (.istore 7, 2) := by decide +kernel
theorem dMo_apart_75 : decode cMo_apart 75 = .ok (.iload 7, 2) := by decide +kernel
theorem dMo_apart_77 : decode cMo_apart 77 = .ok (.aload_n 0, 1) := by decide +kernel
theorem dMo_apart_78 : decode cMo_apart 78 = .ok (.getfield 68, 3) := by decide +kernel
theorem dMo_apart_81 : decode cMo_apart 81 = .ok (.if_icmp .ge 41, 3) := by decide +kernel
theorem dMo_apart_84 : decode cMo_apart 84 = .ok (.iload 4, 2) := by decide +kernel
theorem dMo_apart_86 : decode cMo_apart 86 = .ok (.iload 7, 2) := by decide +kernel
theorem dMo_apart_88 : decode cMo_apart 88 = .ok (.ishr, 1) := by decide +kernel
theorem dMo_apart_89 : decode cMo_apart 89 = .ok (.iconst 1, 1) := by decide +kernel
theorem dMo_apart_90 : decode cMo_apart 90 = .ok (.iand, 1) := by decide +kernel
theorem dMo_apart_91 : decode cMo_apart 91 = .ok (.iconst 1, 1) := by decide +kernel
theorem dMo_apart_92 : decode cMo_apart 92 = .ok (.if_icmp .ne 20, 3) := by decide +kernel
theorem dMo_apart_95 : decode cMo_apart 95 = .ok (.iload 6, 2) := by decide +kernel
theorem dMo_apart_97 : decode cMo_apart 97 = .ok (.aload_n 0, 1) := by decide +kernel
theorem dMo_apart_98 : decode cMo_apart 98 = .ok (.getfield 34, 3) := by decide +kernel
theorem dMo_apart_101 : decode cMo_apart 101 = .ok (.iload 7, 2) := by decide +kernel
theorem dMo_apart_103 : decode cMo_apart 103 = .ok (.iaload, 1) := by decide +kernel
theorem dMo_apart_104 : decode cMo_apart 104 = .ok (.iload_n 3, 1) := by decide +kernel
theorem dMo_apart_105 : decode cMo_apart 105 = .ok (.iconst (-1), 1) := by decide +kernel
theorem dMo_apart_106 : decode cMo_apart 106 = .ok (.ixor, 1) := by decide +kernel
theorem dMo_apart_107 : decode cMo_apart 107 = .ok (.iand, 1) := by decide +kernel
theorem dMo_apart_108 : decode cMo_apart 108 = .ok (.ior, 1) := by decide +kernel
theorem dMo_apart_109 : decode cMo_apart 109 = .ok (.goto 5, 3) := by decide +kernel
theorem dMo_apart_112 : decode cMo_apart 112 = .ok (.iload 6, 2) := by decide +kernel
theorem dMo_apart_114 : decode cMo_apart 114 = .ok (.istore 6, 2) := by decide +kernel
theorem dMo_apart_116 : decode cMo_apart 116 = .ok (.iinc 7 1, 3) := by decide +kernel
theorem dMo_apart_119 : decode cMo_apart 119 = .ok (.goto (-44), 3) := by decide +kernel
theorem dMo_apart_122 : decode cMo_apart 122 = .ok (.iload 6, 2) := by decide +kernel
theorem dMo_apart_124 : decode cMo_apart 124 = .ok (.iload 4, 2) := by decide +kernel
theorem dMo_apart_126 : decode cMo_apart 126 = .ok (.if_icmp .eq 7, 3) := by decide +kernel
theorem dMo_apart_129 : decode cMo_apart 129 = .ok (.iconst 1, 1) := by decide +kernel
theorem dMo_apart_130 : decode cMo_apart 130 = .ok (.goto 4, 3) := by decide +kernel
theorem dMo_apart_133 : decode cMo_apart 133 = .ok (.iconst 0, 1) := by decide +kernel
theorem dMo_apart_134 : decode cMo_apart 134 = .ok (.istore 5, 2) := by decide +kernel
theorem dMo_apart_136 : decode cMo_apart 136 = .ok (.iload 6, 2) := by decide +kernel
theorem dMo_apart_138 : decode cMo_apart 138 = .ok (.istore 4, 2) := by decide +kernel
theorem dMo_apart_140 : decode cMo_apart 140 = .ok (.goto (-77), 3) := by decide +kernel
theorem dMo_apart_143 : decode cMo_apart 143 = .ok (.iload 4, 2) := by decide +kernel
theorem dMo_apart_145 : decode cMo_apart 145 = .ok (.iload_n 2, 1) := by decide +kernel
theorem dMo_apart_146 : decode cMo_apart 146 = .ok (.ishr, 1) := by decide +kernel
theorem dMo_apart_147 : decode cMo_apart 147 = .ok (.iconst 1, 1) := by decide +kernel
theorem dMo_apart_148 : decode cMo_apart 148 = .ok (.iand, 1) := by decide +kernel
theorem dMo_apart_149 : decode cMo_apart 149 = .ok (.iconst 1, 1) := by decide +kernel
theorem dMo_apart_150 : decode cMo_apart 150 = .ok (.if_icmp .ne 7, 3) := by decide +kernel
theorem dMo_apart_153 : decode cMo_apart 153 = .ok (.iconst 0, 1) := by decide +kernel
theorem dMo_apart_154 : decode cMo_apart 154 = .ok (.goto 4, 3) := by decide +kernel
theorem dMo_apart_157 : decode cMo_apart 157 = .ok (.iconst 1, 1) := by decide +kernel
theorem dMo_apart_158 : decode cMo_apart 158 = .ok (.ireturn, 1) := by decide +kernel
abbrev cMo_weight : ByteArray := prog_9_method_48_code
def yMo_weight : MethodName := ⟨RMo, "weight", "(I)J"⟩
theorem dMo_weight_0 : decode cMo_weight 0 = .ok (.aload_n 0, 1) := by decide +kernel
theorem dMo_weight_1 : decode cMo_weight 1 = .ok (.iconst 0, 1) := by decide +kernel
theorem dMo_weight_2 : decode cMo_weight 2 = .ok (.putfield 65, 3) := by decide +kernel
theorem dMo_weight_5 : decode cMo_weight 5 = .ok (.iload_n 1, 1) := by decide +kernel
theorem dMo_weight_6 : decode cMo_weight 6 = .ok (.i2l, 1) := by decide +kernel
theorem dMo_weight_7 : decode cMo_weight 7 = .ok (.lconst 0, 1) := by decide +kernel
theorem dMo_weight_8 : decode cMo_weight 8 = .ok (.aload_n 0, 1) := by decide +kernel
theorem dMo_weight_9 : decode cMo_weight 9 = .ok (.getfield 58, 3) := by decide +kernel
theorem dMo_weight_12 : decode cMo_weight 12 = .ok (.iconst 1, 1) := by decide +kernel
theorem dMo_weight_13 : decode cMo_weight 13 = .ok (.isub, 1) := by decide +kernel
theorem dMo_weight_14 : decode cMo_weight 14 = .ok (.i2l, 1) := by decide +kernel
theorem dMo_weight_15 : decode cMo_weight 15 = .ok (.invokestatic 71, 3) := by decide +kernel
theorem dMo_weight_18 : decode cMo_weight 18 = .ok (.ifCond .eq 11, 3) := by decide +kernel
theorem dMo_weight_21 : decode cMo_weight 21 = .ok (.aload_n 0, 1) := by decide +kernel
theorem dMo_weight_22 : decode cMo_weight 22 = .ok (.iload_n 1, 1) := by decide +kernel
theorem dMo_weight_23 : decode cMo_weight 23 = .ok (.invokevirtual 169, 3) := by decide +kernel
theorem dMo_weight_26 : decode cMo_weight 26 = .ok (.goto 6, 3) := by decide +kernel
theorem dMo_weight_29 : decode cMo_weight 29 = .ok (.ldc2_w 183, 3) := by decide +kernel
theorem dMo_weight_32 : decode cMo_weight 32 = .ok (.lreturn, 1) := by decide +kernel
end
section
abbrev cJi_bitCount : ByteArray := prog_10_method_49_code
def yJi_bitCount : MethodName := ⟨RJi, "bitCount", "(I)I"⟩
theorem dJi_bitCount_0 : decode cJi_bitCount 0 = .ok (.iload_n 0, 1) := by decide +kernel
theorem dJi_bitCount_1 : decode cJi_bitCount 1 = .ok (.iload_n 0, 1) := by decide +kernel
theorem dJi_bitCount_2 : decode cJi_bitCount 2 = .ok (.iconst 1, 1) := by decide +kernel
theorem dJi_bitCount_3 : decode cJi_bitCount 3 = .ok (.iushr, 1) := by decide +kernel
theorem dJi_bitCount_4 : decode cJi_bitCount 4 = .ok (.ldc_w 265, 3) := by decide +kernel
theorem dJi_bitCount_7 : decode cJi_bitCount 7 = .ok (.iand, 1) := by decide +kernel
theorem dJi_bitCount_8 : decode cJi_bitCount 8 = .ok (.isub, 1) := by decide +kernel
theorem dJi_bitCount_9 : decode cJi_bitCount 9 = .ok (.istore_n 0, 1) := by decide +kernel
theorem dJi_bitCount_10 : decode cJi_bitCount 10 = .ok (.iload_n 0, 1) := by decide +kernel
theorem dJi_bitCount_11 : decode cJi_bitCount 11 = .ok (.ldc_w 266, 3) := by decide +kernel
theorem dJi_bitCount_14 : decode cJi_bitCount 14 = .ok (.iand, 1) := by decide +kernel
theorem dJi_bitCount_15 : decode cJi_bitCount 15 = .ok (.iload_n 0, 1) := by decide +kernel
theorem dJi_bitCount_16 : decode cJi_bitCount 16 = .ok (.iconst 2, 1) := by decide +kernel
theorem dJi_bitCount_17 : decode cJi_bitCount 17 = .ok (.iushr, 1) := by decide +kernel
theorem dJi_bitCount_18 : decode cJi_bitCount 18 = .ok (.ldc_w 266, 3) := by decide +kernel
theorem dJi_bitCount_21 : decode cJi_bitCount 21 = .ok (.iand, 1) := by decide +kernel
theorem dJi_bitCount_22 : decode cJi_bitCount 22 = .ok (.iadd, 1) := by decide +kernel
theorem dJi_bitCount_23 : decode cJi_bitCount 23 = .ok (.istore_n 0, 1) := by decide +kernel
theorem dJi_bitCount_24 : decode cJi_bitCount 24 = .ok (.iload_n 0, 1) := by decide +kernel
theorem dJi_bitCount_25 : decode cJi_bitCount 25 = .ok (.iload_n 0, 1) := by decide +kernel
theorem dJi_bitCount_26 : decode cJi_bitCount 26 = .ok (.iconst 4, 1) := by decide +kernel
theorem dJi_bitCount_27 : decode cJi_bitCount 27 = .ok (.iushr, 1) := by decide +kernel
theorem dJi_bitCount_28 : decode cJi_bitCount 28 = .ok (.iadd, 1) := by decide +kernel
theorem dJi_bitCount_29 : decode cJi_bitCount 29 = .ok (.ldc_w 267, 3) := by decide +kernel
theorem dJi_bitCount_32 : decode cJi_bitCount 32 = .ok (.iand, 1) := by decide +kernel
theorem dJi_bitCount_33 : decode cJi_bitCount 33 = .ok (.istore_n 0, 1) := by decide +kernel
theorem dJi_bitCount_34 : decode cJi_bitCount 34 = .ok (.iload_n 0, 1) := by decide +kernel
theorem dJi_bitCount_35 : decode cJi_bitCount 35 = .ok (.iload_n 0, 1) := by decide +kernel
theorem dJi_bitCount_36 : decode cJi_bitCount 36 = .ok (.bipush 8, 2) := by decide +kernel
theorem dJi_bitCount_38 : decode cJi_bitCount 38 = .ok (.iushr, 1) := by decide +kernel
theorem dJi_bitCount_39 : decode cJi_bitCount 39 = .ok (.iadd, 1) := by decide +kernel
theorem dJi_bitCount_40 : decode cJi_bitCount 40 = .ok (.istore_n 0, 1) := by decide +kernel
theorem dJi_bitCount_41 : decode cJi_bitCount 41 = .ok (.iload_n 0, 1) := by decide +kernel
theorem dJi_bitCount_42 : decode cJi_bitCount 42 = .ok (.iload_n 0, 1) := by decide +kernel
theorem dJi_bitCount_43 : decode cJi_bitCount 43 = .ok (.bipush 16, 2) := by decide +kernel
theorem dJi_bitCount_45 : decode cJi_bitCount 45 = .ok (.iushr, 1) := by decide +kernel
theorem dJi_bitCount_46 : decode cJi_bitCount 46 = .ok (.iadd, 1) := by decide +kernel
theorem dJi_bitCount_47 : decode cJi_bitCount 47 = .ok (.istore_n 0, 1) := by decide +kernel
theorem dJi_bitCount_48 : decode cJi_bitCount 48 = .ok (.iload_n 0, 1) := by decide +kernel
theorem dJi_bitCount_49 : decode cJi_bitCount 49 = .ok (.bipush 63, 2) := by decide +kernel
theorem dJi_bitCount_51 : decode cJi_bitCount 51 = .ok (.iand, 1) := by decide +kernel
theorem dJi_bitCount_52 : decode cJi_bitCount 52 = .ok (.ireturn, 1) := by decide +kernel
end
section
abbrev cJm_max : ByteArray := prog_11_method_65_code
def yJm_max : MethodName := ⟨RJm, "max", "(II)I"⟩
theorem dJm_max_0 : decode cJm_max 0 = .ok (.iload_n 0, 1) := by decide +kernel
theorem dJm_max_1 : decode cJm_max 1 = .ok (.iload_n 1, 1) := by decide +kernel
theorem dJm_max_2 : decode cJm_max 2 = .ok (.if_icmp .lt 7, 3) := by decide +kernel
theorem dJm_max_5 : decode cJm_max 5 = .ok (.iload_n 0, 1) := by decide +kernel
theorem dJm_max_6 : decode cJm_max 6 = .ok (.goto 4, 3) := by decide +kernel
theorem dJm_max_9 : decode cJm_max 9 = .ok (.iload_n 1, 1) := by decide +kernel
theorem dJm_max_10 : decode cJm_max 10 = .ok (.ireturn, 1) := by decide +kernel
abbrev cJm_min : ByteArray := prog_11_method_69_code
def yJm_min : MethodName := ⟨RJm, "min", "(II)I"⟩
theorem dJm_min_0 : decode cJm_min 0 = .ok (.iload_n 0, 1) := by decide +kernel
theorem dJm_min_1 : decode cJm_min 1 = .ok (.iload_n 1, 1) := by decide +kernel
theorem dJm_min_2 : decode cJm_min 2 = .ok (.if_icmp .gt 7, 3) := by decide +kernel
theorem dJm_min_5 : decode cJm_min 5 = .ok (.iload_n 0, 1) := by decide +kernel
theorem dJm_min_6 : decode cJm_min 6 = .ok (.goto 4, 3) := by decide +kernel
theorem dJm_min_9 : decode cJm_min 9 = .ok (.iload_n 1, 1) := by decide +kernel
theorem dJm_min_10 : decode cJm_min 10 = .ok (.ireturn, 1) := by decide +kernel
end
section
abbrev cJa_fill_II : ByteArray := prog_12_method_103_code
def yJa_fill_II : MethodName := ⟨RJa, "fill", "([II)V"⟩
theorem dJa_fill_II_0 : decode cJa_fill_II 0 = .ok (.iconst 0, 1) := by decide +kernel
theorem dJa_fill_II_1 : decode cJa_fill_II 1 = .ok (.istore_n 2, 1) := by decide +kernel
theorem dJa_fill_II_2 : decode cJa_fill_II 2 = .ok (.aload_n 0, 1) := by decide +kernel
theorem dJa_fill_II_3 : decode cJa_fill_II 3 = .ok (.arraylength, 1) := by decide +kernel
theorem dJa_fill_II_4 : decode cJa_fill_II 4 = .ok (.istore_n 3, 1) := by decide +kernel
theorem dJa_fill_II_5 : decode cJa_fill_II 5 = .ok (.iload_n 2, 1) := by decide +kernel
theorem dJa_fill_II_6 : decode cJa_fill_II 6 = .ok (.iload_n 3, 1) := by decide +kernel
theorem dJa_fill_II_7 : decode cJa_fill_II 7 = .ok (.if_icmp .ge 13, 3) := by decide +kernel
theorem dJa_fill_II_10 : decode cJa_fill_II 10 = .ok (.aload_n 0, 1) := by decide +kernel
theorem dJa_fill_II_11 : decode cJa_fill_II 11 = .ok (.iload_n 2, 1) := by decide +kernel
theorem dJa_fill_II_12 : decode cJa_fill_II 12 = .ok (.iload_n 1, 1) := by decide +kernel
theorem dJa_fill_II_13 : decode cJa_fill_II 13 = .ok (.iastore, 1) := by decide +kernel
theorem dJa_fill_II_14 : decode cJa_fill_II 14 = .ok (.iinc 2 1, 3) := by decide +kernel
theorem dJa_fill_II_17 : decode cJa_fill_II 17 = .ok (.goto (-12), 3) := by decide +kernel
theorem dJa_fill_II_20 : decode cJa_fill_II 20 = .ok (.return_, 1) := by decide +kernel
abbrev cJa_fill_JJ : ByteArray := prog_12_method_101_code
def yJa_fill_JJ : MethodName := ⟨RJa, "fill", "([JJ)V"⟩
theorem dJa_fill_JJ_0 : decode cJa_fill_JJ 0 = .ok (.iconst 0, 1) := by decide +kernel
theorem dJa_fill_JJ_1 : decode cJa_fill_JJ 1 = .ok (.istore_n 3, 1) := by decide +kernel
theorem dJa_fill_JJ_2 : decode cJa_fill_JJ 2 = .ok (.aload_n 0, 1) := by decide +kernel
theorem dJa_fill_JJ_3 : decode cJa_fill_JJ 3 = .ok (.arraylength, 1) := by decide +kernel
theorem dJa_fill_JJ_4 : decode cJa_fill_JJ 4 = .ok (.istore 4, 2) := by decide +kernel
theorem dJa_fill_JJ_6 : decode cJa_fill_JJ 6 = .ok (.iload_n 3, 1) := by decide +kernel
theorem dJa_fill_JJ_7 : decode cJa_fill_JJ 7 = .ok (.iload 4, 2) := by decide +kernel
theorem dJa_fill_JJ_9 : decode cJa_fill_JJ 9 = .ok (.if_icmp .ge 13, 3) := by decide +kernel
theorem dJa_fill_JJ_12 : decode cJa_fill_JJ 12 = .ok (.aload_n 0, 1) := by decide +kernel
theorem dJa_fill_JJ_13 : decode cJa_fill_JJ 13 = .ok (.iload_n 3, 1) := by decide +kernel
theorem dJa_fill_JJ_14 : decode cJa_fill_JJ 14 = .ok (.lload_n 1, 1) := by decide +kernel
theorem dJa_fill_JJ_15 : decode cJa_fill_JJ 15 = .ok (.lastore, 1) := by decide +kernel
theorem dJa_fill_JJ_16 : decode cJa_fill_JJ 16 = .ok (.iinc 3 1, 3) := by decide +kernel
theorem dJa_fill_JJ_19 : decode cJa_fill_JJ 19 = .ok (.goto (-13), 3) := by decide +kernel
theorem dJa_fill_JJ_22 : decode cJa_fill_JJ 22 = .ok (.return_, 1) := by decide +kernel
end
section
abbrev cLa_law : ByteArray := code
def yLa_law : MethodName := ⟨RLa, "law", "([I)Z"⟩
theorem dLa_law_0 : decode cLa_law 0 = .ok (.new 7, 3) := by decide +kernel
theorem dLa_law_3 : decode cLa_law 3 = .ok (.dup, 1) := by decide +kernel
theorem dLa_law_4 : decode cLa_law 4 = .ok (.invokespecial 9, 3) := by decide +kernel
theorem dLa_law_7 : decode cLa_law 7 = .ok (.astore_n 1, 1) := by decide +kernel
theorem dLa_law_8 : decode cLa_law 8 = .ok (.new 10, 3) := by decide +kernel
theorem dLa_law_11 : decode cLa_law 11 = .ok (.dup, 1) := by decide +kernel
theorem dLa_law_12 : decode cLa_law 12 = .ok (.invokespecial 12, 3) := by decide +kernel
theorem dLa_law_15 : decode cLa_law 15 = .ok (.astore_n 2, 1) := by decide +kernel
theorem dLa_law_16 : decode cLa_law 16 = .ok (.iconst 0, 1) := by decide +kernel
theorem dLa_law_17 : decode cLa_law 17 = .ok (.istore_n 3, 1) := by decide +kernel
theorem dLa_law_18 : decode cLa_law 18 = .ok (.iload_n 3, 1) := by decide +kernel
theorem dLa_law_19 : decode cLa_law 19 = .ok (.aload_n 0, 1) := by decide +kernel
theorem dLa_law_20 : decode cLa_law 20 = .ok (.arraylength, 1) := by decide +kernel
theorem dLa_law_21 : decode cLa_law 21 = .ok (.iconst 4, 1) := by decide +kernel
theorem dLa_law_22 : decode cLa_law 22 = .ok (.isub, 1) := by decide +kernel
theorem dLa_law_23 : decode cLa_law 23 = .ok (.if_icmp .gt 706, 3) := by decide +kernel
theorem dLa_law_26 : decode cLa_law 26 = .ok (.aload_n 0, 1) := by decide +kernel
theorem dLa_law_27 : decode cLa_law 27 = .ok (.iload_n 3, 1) := by decide +kernel
theorem dLa_law_28 : decode cLa_law 28 = .ok (.iaload, 1) := by decide +kernel
theorem dLa_law_29 : decode cLa_law 29 = .ok (.bipush 31, 2) := by decide +kernel
theorem dLa_law_31 : decode cLa_law 31 = .ok (.iand, 1) := by decide +kernel
theorem dLa_law_32 : decode cLa_law 32 = .ok (.tableswitch 691 0 19 #[96, 119, 142, 185, 218, 251, 274, 307, 330, 363, 386, 400, 444, 458, 481, 515, 528, 561, 624, 667], 96) := by decide +kernel
theorem dLa_law_128 : decode cLa_law 128 = .ok (.aload_n 1, 1) := by decide +kernel
theorem dLa_law_129 : decode cLa_law 129 = .ok (.aload_n 0, 1) := by decide +kernel
theorem dLa_law_130 : decode cLa_law 130 = .ok (.iload_n 3, 1) := by decide +kernel
theorem dLa_law_131 : decode cLa_law 131 = .ok (.iconst 1, 1) := by decide +kernel
theorem dLa_law_132 : decode cLa_law 132 = .ok (.iadd, 1) := by decide +kernel
theorem dLa_law_133 : decode cLa_law 133 = .ok (.iaload, 1) := by decide +kernel
theorem dLa_law_134 : decode cLa_law 134 = .ok (.invokevirtual 13, 3) := by decide +kernel
theorem dLa_law_137 : decode cLa_law 137 = .ok (.aload_n 2, 1) := by decide +kernel
theorem dLa_law_138 : decode cLa_law 138 = .ok (.aload_n 0, 1) := by decide +kernel
theorem dLa_law_139 : decode cLa_law 139 = .ok (.iload_n 3, 1) := by decide +kernel
theorem dLa_law_140 : decode cLa_law 140 = .ok (.iconst 1, 1) := by decide +kernel
theorem dLa_law_141 : decode cLa_law 141 = .ok (.iadd, 1) := by decide +kernel
theorem dLa_law_142 : decode cLa_law 142 = .ok (.iaload, 1) := by decide +kernel
theorem dLa_law_143 : decode cLa_law 143 = .ok (.invokevirtual 17, 3) := by decide +kernel
theorem dLa_law_146 : decode cLa_law 146 = .ok (.if_icmp .eq 577, 3) := by decide +kernel
theorem dLa_law_149 : decode cLa_law 149 = .ok (.iconst 0, 1) := by decide +kernel
theorem dLa_law_150 : decode cLa_law 150 = .ok (.ireturn, 1) := by decide +kernel
theorem dLa_law_151 : decode cLa_law 151 = .ok (.aload_n 1, 1) := by decide +kernel
theorem dLa_law_152 : decode cLa_law 152 = .ok (.aload_n 0, 1) := by decide +kernel
theorem dLa_law_153 : decode cLa_law 153 = .ok (.iload_n 3, 1) := by decide +kernel
theorem dLa_law_154 : decode cLa_law 154 = .ok (.iconst 1, 1) := by decide +kernel
theorem dLa_law_155 : decode cLa_law 155 = .ok (.iadd, 1) := by decide +kernel
theorem dLa_law_156 : decode cLa_law 156 = .ok (.iaload, 1) := by decide +kernel
theorem dLa_law_157 : decode cLa_law 157 = .ok (.invokevirtual 18, 3) := by decide +kernel
theorem dLa_law_160 : decode cLa_law 160 = .ok (.aload_n 2, 1) := by decide +kernel
theorem dLa_law_161 : decode cLa_law 161 = .ok (.aload_n 0, 1) := by decide +kernel
theorem dLa_law_162 : decode cLa_law 162 = .ok (.iload_n 3, 1) := by decide +kernel
theorem dLa_law_163 : decode cLa_law 163 = .ok (.iconst 1, 1) := by decide +kernel
theorem dLa_law_164 : decode cLa_law 164 = .ok (.iadd, 1) := by decide +kernel
theorem dLa_law_165 : decode cLa_law 165 = .ok (.iaload, 1) := by decide +kernel
theorem dLa_law_166 : decode cLa_law 166 = .ok (.invokevirtual 21, 3) := by decide +kernel
theorem dLa_law_169 : decode cLa_law 169 = .ok (.if_icmp .eq 554, 3) := by decide +kernel
theorem dLa_law_172 : decode cLa_law 172 = .ok (.iconst 0, 1) := by decide +kernel
theorem dLa_law_173 : decode cLa_law 173 = .ok (.ireturn, 1) := by decide +kernel
theorem dLa_law_174 : decode cLa_law 174 = .ok (.aload_n 1, 1) := by decide +kernel
theorem dLa_law_175 : decode cLa_law 175 = .ok (.aload_n 0, 1) := by decide +kernel
theorem dLa_law_176 : decode cLa_law 176 = .ok (.iload_n 3, 1) := by decide +kernel
theorem dLa_law_177 : decode cLa_law 177 = .ok (.iconst 1, 1) := by decide +kernel
theorem dLa_law_178 : decode cLa_law 178 = .ok (.iadd, 1) := by decide +kernel
theorem dLa_law_179 : decode cLa_law 179 = .ok (.iaload, 1) := by decide +kernel
theorem dLa_law_180 : decode cLa_law 180 = .ok (.aload_n 0, 1) := by decide +kernel
theorem dLa_law_181 : decode cLa_law 181 = .ok (.iload_n 3, 1) := by decide +kernel
theorem dLa_law_182 : decode cLa_law 182 = .ok (.iconst 2, 1) := by decide +kernel
theorem dLa_law_183 : decode cLa_law 183 = .ok (.iadd, 1) := by decide +kernel
theorem dLa_law_184 : decode cLa_law 184 = .ok (.iaload, 1) := by decide +kernel
theorem dLa_law_185 : decode cLa_law 185 = .ok (.aload_n 0, 1) := by decide +kernel
theorem dLa_law_186 : decode cLa_law 186 = .ok (.iload_n 3, 1) := by decide +kernel
theorem dLa_law_187 : decode cLa_law 187 = .ok (.iconst 3, 1) := by decide +kernel
theorem dLa_law_188 : decode cLa_law 188 = .ok (.iadd, 1) := by decide +kernel
theorem dLa_law_189 : decode cLa_law 189 = .ok (.iaload, 1) := by decide +kernel
theorem dLa_law_190 : decode cLa_law 190 = .ok (.invokevirtual 22, 3) := by decide +kernel
theorem dLa_law_193 : decode cLa_law 193 = .ok (.aload_n 2, 1) := by decide +kernel
theorem dLa_law_194 : decode cLa_law 194 = .ok (.aload_n 0, 1) := by decide +kernel
theorem dLa_law_195 : decode cLa_law 195 = .ok (.iload_n 3, 1) := by decide +kernel
theorem dLa_law_196 : decode cLa_law 196 = .ok (.iconst 1, 1) := by decide +kernel
theorem dLa_law_197 : decode cLa_law 197 = .ok (.iadd, 1) := by decide +kernel
theorem dLa_law_198 : decode cLa_law 198 = .ok (.iaload, 1) := by decide +kernel
theorem dLa_law_199 : decode cLa_law 199 = .ok (.aload_n 0, 1) := by decide +kernel
theorem dLa_law_200 : decode cLa_law 200 = .ok (.iload_n 3, 1) := by decide +kernel
theorem dLa_law_201 : decode cLa_law 201 = .ok (.iconst 2, 1) := by decide +kernel
theorem dLa_law_202 : decode cLa_law 202 = .ok (.iadd, 1) := by decide +kernel
theorem dLa_law_203 : decode cLa_law 203 = .ok (.iaload, 1) := by decide +kernel
theorem dLa_law_204 : decode cLa_law 204 = .ok (.aload_n 0, 1) := by decide +kernel
theorem dLa_law_205 : decode cLa_law 205 = .ok (.iload_n 3, 1) := by decide +kernel
theorem dLa_law_206 : decode cLa_law 206 = .ok (.iconst 3, 1) := by decide +kernel
theorem dLa_law_207 : decode cLa_law 207 = .ok (.iadd, 1) := by decide +kernel
theorem dLa_law_208 : decode cLa_law 208 = .ok (.iaload, 1) := by decide +kernel
theorem dLa_law_209 : decode cLa_law 209 = .ok (.invokevirtual 26, 3) := by decide +kernel
theorem dLa_law_212 : decode cLa_law 212 = .ok (.if_icmp .eq 511, 3) := by decide +kernel
theorem dLa_law_215 : decode cLa_law 215 = .ok (.iconst 0, 1) := by decide +kernel
theorem dLa_law_216 : decode cLa_law 216 = .ok (.ireturn, 1) := by decide +kernel
theorem dLa_law_217 : decode cLa_law 217 = .ok (.aload_n 1, 1) := by decide +kernel
theorem dLa_law_218 : decode cLa_law 218 = .ok (.aload_n 0, 1) := by decide +kernel
theorem dLa_law_219 : decode cLa_law 219 = .ok (.iload_n 3, 1) := by decide +kernel
theorem dLa_law_220 : decode cLa_law 220 = .ok (.iconst 1, 1) := by decide +kernel
theorem dLa_law_221 : decode cLa_law 221 = .ok (.iadd, 1) := by decide +kernel
theorem dLa_law_222 : decode cLa_law 222 = .ok (.iaload, 1) := by decide +kernel
theorem dLa_law_223 : decode cLa_law 223 = .ok (.aload_n 0, 1) := by decide +kernel
theorem dLa_law_224 : decode cLa_law 224 = .ok (.iload_n 3, 1) := by decide +kernel
theorem dLa_law_225 : decode cLa_law 225 = .ok (.iconst 2, 1) := by decide +kernel
theorem dLa_law_226 : decode cLa_law 226 = .ok (.iadd, 1) := by decide +kernel
theorem dLa_law_227 : decode cLa_law 227 = .ok (.iaload, 1) := by decide +kernel
theorem dLa_law_228 : decode cLa_law 228 = .ok (.invokevirtual 27, 3) := by decide +kernel
theorem dLa_law_231 : decode cLa_law 231 = .ok (.aload_n 2, 1) := by decide +kernel
theorem dLa_law_232 : decode cLa_law 232 = .ok (.aload_n 0, 1) := by decide +kernel
theorem dLa_law_233 : decode cLa_law 233 = .ok (.iload_n 3, 1) := by decide +kernel
theorem dLa_law_234 : decode cLa_law 234 = .ok (.iconst 1, 1) := by decide +kernel
theorem dLa_law_235 : decode cLa_law 235 = .ok (.iadd, 1) := by decide +kernel
theorem dLa_law_236 : decode cLa_law 236 = .ok (.iaload, 1) := by decide +kernel
theorem dLa_law_237 : decode cLa_law 237 = .ok (.aload_n 0, 1) := by decide +kernel
theorem dLa_law_238 : decode cLa_law 238 = .ok (.iload_n 3, 1) := by decide +kernel
theorem dLa_law_239 : decode cLa_law 239 = .ok (.iconst 2, 1) := by decide +kernel
theorem dLa_law_240 : decode cLa_law 240 = .ok (.iadd, 1) := by decide +kernel
theorem dLa_law_241 : decode cLa_law 241 = .ok (.iaload, 1) := by decide +kernel
theorem dLa_law_242 : decode cLa_law 242 = .ok (.invokevirtual 31, 3) := by decide +kernel
theorem dLa_law_245 : decode cLa_law 245 = .ok (.if_icmp .eq 478, 3) := by decide +kernel
theorem dLa_law_248 : decode cLa_law 248 = .ok (.iconst 0, 1) := by decide +kernel
theorem dLa_law_249 : decode cLa_law 249 = .ok (.ireturn, 1) := by decide +kernel
theorem dLa_law_250 : decode cLa_law 250 = .ok (.aload_n 1, 1) := by decide +kernel
theorem dLa_law_251 : decode cLa_law 251 = .ok (.aload_n 0, 1) := by decide +kernel
theorem dLa_law_252 : decode cLa_law 252 = .ok (.iload_n 3, 1) := by decide +kernel
theorem dLa_law_253 : decode cLa_law 253 = .ok (.iconst 1, 1) := by decide +kernel
theorem dLa_law_254 : decode cLa_law 254 = .ok (.iadd, 1) := by decide +kernel
theorem dLa_law_255 : decode cLa_law 255 = .ok (.iaload, 1) := by decide +kernel
theorem dLa_law_256 : decode cLa_law 256 = .ok (.aload_n 0, 1) := by decide +kernel
theorem dLa_law_257 : decode cLa_law 257 = .ok (.iload_n 3, 1) := by decide +kernel
theorem dLa_law_258 : decode cLa_law 258 = .ok (.iconst 2, 1) := by decide +kernel
theorem dLa_law_259 : decode cLa_law 259 = .ok (.iadd, 1) := by decide +kernel
theorem dLa_law_260 : decode cLa_law 260 = .ok (.iaload, 1) := by decide +kernel
theorem dLa_law_261 : decode cLa_law 261 = .ok (.invokevirtual 32, 3) := by decide +kernel
theorem dLa_law_264 : decode cLa_law 264 = .ok (.aload_n 2, 1) := by decide +kernel
theorem dLa_law_265 : decode cLa_law 265 = .ok (.aload_n 0, 1) := by decide +kernel
theorem dLa_law_266 : decode cLa_law 266 = .ok (.iload_n 3, 1) := by decide +kernel
theorem dLa_law_267 : decode cLa_law 267 = .ok (.iconst 1, 1) := by decide +kernel
theorem dLa_law_268 : decode cLa_law 268 = .ok (.iadd, 1) := by decide +kernel
theorem dLa_law_269 : decode cLa_law 269 = .ok (.iaload, 1) := by decide +kernel
theorem dLa_law_270 : decode cLa_law 270 = .ok (.aload_n 0, 1) := by decide +kernel
theorem dLa_law_271 : decode cLa_law 271 = .ok (.iload_n 3, 1) := by decide +kernel
theorem dLa_law_272 : decode cLa_law 272 = .ok (.iconst 2, 1) := by decide +kernel
theorem dLa_law_273 : decode cLa_law 273 = .ok (.iadd, 1) := by decide +kernel
theorem dLa_law_274 : decode cLa_law 274 = .ok (.iaload, 1) := by decide +kernel
theorem dLa_law_275 : decode cLa_law 275 = .ok (.invokevirtual 35, 3) := by decide +kernel
theorem dLa_law_278 : decode cLa_law 278 = .ok (.if_icmp .eq 445, 3) := by decide +kernel
theorem dLa_law_281 : decode cLa_law 281 = .ok (.iconst 0, 1) := by decide +kernel
theorem dLa_law_282 : decode cLa_law 282 = .ok (.ireturn, 1) := by decide +kernel
theorem dLa_law_283 : decode cLa_law 283 = .ok (.aload_n 1, 1) := by decide +kernel
theorem dLa_law_284 : decode cLa_law 284 = .ok (.aload_n 0, 1) := by decide +kernel
theorem dLa_law_285 : decode cLa_law 285 = .ok (.iload_n 3, 1) := by decide +kernel
theorem dLa_law_286 : decode cLa_law 286 = .ok (.iconst 1, 1) := by decide +kernel
theorem dLa_law_287 : decode cLa_law 287 = .ok (.iadd, 1) := by decide +kernel
theorem dLa_law_288 : decode cLa_law 288 = .ok (.iaload, 1) := by decide +kernel
theorem dLa_law_289 : decode cLa_law 289 = .ok (.invokevirtual 36, 3) := by decide +kernel
theorem dLa_law_292 : decode cLa_law 292 = .ok (.aload_n 2, 1) := by decide +kernel
theorem dLa_law_293 : decode cLa_law 293 = .ok (.aload_n 0, 1) := by decide +kernel
theorem dLa_law_294 : decode cLa_law 294 = .ok (.iload_n 3, 1) := by decide +kernel
theorem dLa_law_295 : decode cLa_law 295 = .ok (.iconst 1, 1) := by decide +kernel
theorem dLa_law_296 : decode cLa_law 296 = .ok (.iadd, 1) := by decide +kernel
theorem dLa_law_297 : decode cLa_law 297 = .ok (.iaload, 1) := by decide +kernel
theorem dLa_law_298 : decode cLa_law 298 = .ok (.invokevirtual 39, 3) := by decide +kernel
theorem dLa_law_301 : decode cLa_law 301 = .ok (.if_icmp .eq 422, 3) := by decide +kernel
theorem dLa_law_304 : decode cLa_law 304 = .ok (.iconst 0, 1) := by decide +kernel
theorem dLa_law_305 : decode cLa_law 305 = .ok (.ireturn, 1) := by decide +kernel
theorem dLa_law_306 : decode cLa_law 306 = .ok (.aload_n 1, 1) := by decide +kernel
theorem dLa_law_307 : decode cLa_law 307 = .ok (.aload_n 0, 1) := by decide +kernel
theorem dLa_law_308 : decode cLa_law 308 = .ok (.iload_n 3, 1) := by decide +kernel
theorem dLa_law_309 : decode cLa_law 309 = .ok (.iconst 1, 1) := by decide +kernel
theorem dLa_law_310 : decode cLa_law 310 = .ok (.iadd, 1) := by decide +kernel
theorem dLa_law_311 : decode cLa_law 311 = .ok (.iaload, 1) := by decide +kernel
theorem dLa_law_312 : decode cLa_law 312 = .ok (.aload_n 0, 1) := by decide +kernel
theorem dLa_law_313 : decode cLa_law 313 = .ok (.iload_n 3, 1) := by decide +kernel
theorem dLa_law_314 : decode cLa_law 314 = .ok (.iconst 2, 1) := by decide +kernel
theorem dLa_law_315 : decode cLa_law 315 = .ok (.iadd, 1) := by decide +kernel
theorem dLa_law_316 : decode cLa_law 316 = .ok (.iaload, 1) := by decide +kernel
theorem dLa_law_317 : decode cLa_law 317 = .ok (.invokevirtual 40, 3) := by decide +kernel
theorem dLa_law_320 : decode cLa_law 320 = .ok (.aload_n 2, 1) := by decide +kernel
theorem dLa_law_321 : decode cLa_law 321 = .ok (.aload_n 0, 1) := by decide +kernel
theorem dLa_law_322 : decode cLa_law 322 = .ok (.iload_n 3, 1) := by decide +kernel
theorem dLa_law_323 : decode cLa_law 323 = .ok (.iconst 1, 1) := by decide +kernel
theorem dLa_law_324 : decode cLa_law 324 = .ok (.iadd, 1) := by decide +kernel
theorem dLa_law_325 : decode cLa_law 325 = .ok (.iaload, 1) := by decide +kernel
theorem dLa_law_326 : decode cLa_law 326 = .ok (.aload_n 0, 1) := by decide +kernel
theorem dLa_law_327 : decode cLa_law 327 = .ok (.iload_n 3, 1) := by decide +kernel
theorem dLa_law_328 : decode cLa_law 328 = .ok (.iconst 2, 1) := by decide +kernel
theorem dLa_law_329 : decode cLa_law 329 = .ok (.iadd, 1) := by decide +kernel
theorem dLa_law_330 : decode cLa_law 330 = .ok (.iaload, 1) := by decide +kernel
theorem dLa_law_331 : decode cLa_law 331 = .ok (.invokevirtual 43, 3) := by decide +kernel
theorem dLa_law_334 : decode cLa_law 334 = .ok (.if_icmp .eq 389, 3) := by decide +kernel
theorem dLa_law_337 : decode cLa_law 337 = .ok (.iconst 0, 1) := by decide +kernel
theorem dLa_law_338 : decode cLa_law 338 = .ok (.ireturn, 1) := by decide +kernel
theorem dLa_law_339 : decode cLa_law 339 = .ok (.aload_n 1, 1) := by decide +kernel
theorem dLa_law_340 : decode cLa_law 340 = .ok (.aload_n 0, 1) := by decide +kernel
theorem dLa_law_341 : decode cLa_law 341 = .ok (.iload_n 3, 1) := by decide +kernel
theorem dLa_law_342 : decode cLa_law 342 = .ok (.iconst 1, 1) := by decide +kernel
theorem dLa_law_343 : decode cLa_law 343 = .ok (.iadd, 1) := by decide +kernel
theorem dLa_law_344 : decode cLa_law 344 = .ok (.iaload, 1) := by decide +kernel
theorem dLa_law_345 : decode cLa_law 345 = .ok (.invokevirtual 44, 3) := by decide +kernel
theorem dLa_law_348 : decode cLa_law 348 = .ok (.aload_n 2, 1) := by decide +kernel
theorem dLa_law_349 : decode cLa_law 349 = .ok (.aload_n 0, 1) := by decide +kernel
theorem dLa_law_350 : decode cLa_law 350 = .ok (.iload_n 3, 1) := by decide +kernel
theorem dLa_law_351 : decode cLa_law 351 = .ok (.iconst 1, 1) := by decide +kernel
theorem dLa_law_352 : decode cLa_law 352 = .ok (.iadd, 1) := by decide +kernel
theorem dLa_law_353 : decode cLa_law 353 = .ok (.iaload, 1) := by decide +kernel
theorem dLa_law_354 : decode cLa_law 354 = .ok (.invokevirtual 47, 3) := by decide +kernel
theorem dLa_law_357 : decode cLa_law 357 = .ok (.if_icmp .eq 366, 3) := by decide +kernel
theorem dLa_law_360 : decode cLa_law 360 = .ok (.iconst 0, 1) := by decide +kernel
theorem dLa_law_361 : decode cLa_law 361 = .ok (.ireturn, 1) := by decide +kernel
theorem dLa_law_362 : decode cLa_law 362 = .ok (.aload_n 1, 1) := by decide +kernel
theorem dLa_law_363 : decode cLa_law 363 = .ok (.aload_n 0, 1) := by decide +kernel
theorem dLa_law_364 : decode cLa_law 364 = .ok (.iload_n 3, 1) := by decide +kernel
theorem dLa_law_365 : decode cLa_law 365 = .ok (.iconst 1, 1) := by decide +kernel
theorem dLa_law_366 : decode cLa_law 366 = .ok (.iadd, 1) := by decide +kernel
theorem dLa_law_367 : decode cLa_law 367 = .ok (.iaload, 1) := by decide +kernel
theorem dLa_law_368 : decode cLa_law 368 = .ok (.aload_n 0, 1) := by decide +kernel
theorem dLa_law_369 : decode cLa_law 369 = .ok (.iload_n 3, 1) := by decide +kernel
theorem dLa_law_370 : decode cLa_law 370 = .ok (.iconst 2, 1) := by decide +kernel
theorem dLa_law_371 : decode cLa_law 371 = .ok (.iadd, 1) := by decide +kernel
theorem dLa_law_372 : decode cLa_law 372 = .ok (.iaload, 1) := by decide +kernel
theorem dLa_law_373 : decode cLa_law 373 = .ok (.invokevirtual 48, 3) := by decide +kernel
theorem dLa_law_376 : decode cLa_law 376 = .ok (.aload_n 2, 1) := by decide +kernel
theorem dLa_law_377 : decode cLa_law 377 = .ok (.aload_n 0, 1) := by decide +kernel
theorem dLa_law_378 : decode cLa_law 378 = .ok (.iload_n 3, 1) := by decide +kernel
theorem dLa_law_379 : decode cLa_law 379 = .ok (.iconst 1, 1) := by decide +kernel
theorem dLa_law_380 : decode cLa_law 380 = .ok (.iadd, 1) := by decide +kernel
theorem dLa_law_381 : decode cLa_law 381 = .ok (.iaload, 1) := by decide +kernel
theorem dLa_law_382 : decode cLa_law 382 = .ok (.aload_n 0, 1) := by decide +kernel
theorem dLa_law_383 : decode cLa_law 383 = .ok (.iload_n 3, 1) := by decide +kernel
theorem dLa_law_384 : decode cLa_law 384 = .ok (.iconst 2, 1) := by decide +kernel
theorem dLa_law_385 : decode cLa_law 385 = .ok (.iadd, 1) := by decide +kernel
theorem dLa_law_386 : decode cLa_law 386 = .ok (.iaload, 1) := by decide +kernel
theorem dLa_law_387 : decode cLa_law 387 = .ok (.invokevirtual 51, 3) := by decide +kernel
theorem dLa_law_390 : decode cLa_law 390 = .ok (.if_icmp .eq 333, 3) := by decide +kernel
theorem dLa_law_393 : decode cLa_law 393 = .ok (.iconst 0, 1) := by decide +kernel
theorem dLa_law_394 : decode cLa_law 394 = .ok (.ireturn, 1) := by decide +kernel
theorem dLa_law_395 : decode cLa_law 395 = .ok (.aload_n 1, 1) := by decide +kernel
theorem dLa_law_396 : decode cLa_law 396 = .ok (.aload_n 0, 1) := by decide +kernel
theorem dLa_law_397 : decode cLa_law 397 = .ok (.iload_n 3, 1) := by decide +kernel
theorem dLa_law_398 : decode cLa_law 398 = .ok (.iconst 1, 1) := by decide +kernel
theorem dLa_law_399 : decode cLa_law 399 = .ok (.iadd, 1) := by decide +kernel
theorem dLa_law_400 : decode cLa_law 400 = .ok (.iaload, 1) := by decide +kernel
theorem dLa_law_401 : decode cLa_law 401 = .ok (.invokevirtual 52, 3) := by decide +kernel
theorem dLa_law_404 : decode cLa_law 404 = .ok (.aload_n 2, 1) := by decide +kernel
theorem dLa_law_405 : decode cLa_law 405 = .ok (.aload_n 0, 1) := by decide +kernel
theorem dLa_law_406 : decode cLa_law 406 = .ok (.iload_n 3, 1) := by decide +kernel
theorem dLa_law_407 : decode cLa_law 407 = .ok (.iconst 1, 1) := by decide +kernel
theorem dLa_law_408 : decode cLa_law 408 = .ok (.iadd, 1) := by decide +kernel
theorem dLa_law_409 : decode cLa_law 409 = .ok (.iaload, 1) := by decide +kernel
theorem dLa_law_410 : decode cLa_law 410 = .ok (.invokevirtual 55, 3) := by decide +kernel
theorem dLa_law_413 : decode cLa_law 413 = .ok (.if_icmp .eq 310, 3) := by decide +kernel
theorem dLa_law_416 : decode cLa_law 416 = .ok (.iconst 0, 1) := by decide +kernel
theorem dLa_law_417 : decode cLa_law 417 = .ok (.ireturn, 1) := by decide +kernel
theorem dLa_law_418 : decode cLa_law 418 = .ok (.aload_n 1, 1) := by decide +kernel
theorem dLa_law_419 : decode cLa_law 419 = .ok (.invokevirtual 56, 3) := by decide +kernel
theorem dLa_law_422 : decode cLa_law 422 = .ok (.aload_n 2, 1) := by decide +kernel
theorem dLa_law_423 : decode cLa_law 423 = .ok (.invokevirtual 60, 3) := by decide +kernel
theorem dLa_law_426 : decode cLa_law 426 = .ok (.lcmp, 1) := by decide +kernel
theorem dLa_law_427 : decode cLa_law 427 = .ok (.ifCond .eq 296, 3) := by decide +kernel
theorem dLa_law_430 : decode cLa_law 430 = .ok (.iconst 0, 1) := by decide +kernel
theorem dLa_law_431 : decode cLa_law 431 = .ok (.ireturn, 1) := by decide +kernel
theorem dLa_law_432 : decode cLa_law 432 = .ok (.aload_n 1, 1) := by decide +kernel
theorem dLa_law_433 : decode cLa_law 433 = .ok (.aload_n 0, 1) := by decide +kernel
theorem dLa_law_434 : decode cLa_law 434 = .ok (.iload_n 3, 1) := by decide +kernel
theorem dLa_law_435 : decode cLa_law 435 = .ok (.iconst 1, 1) := by decide +kernel
theorem dLa_law_436 : decode cLa_law 436 = .ok (.iadd, 1) := by decide +kernel
theorem dLa_law_437 : decode cLa_law 437 = .ok (.iaload, 1) := by decide +kernel
theorem dLa_law_438 : decode cLa_law 438 = .ok (.aload_n 0, 1) := by decide +kernel
theorem dLa_law_439 : decode cLa_law 439 = .ok (.iload_n 3, 1) := by decide +kernel
theorem dLa_law_440 : decode cLa_law 440 = .ok (.iconst 2, 1) := by decide +kernel
theorem dLa_law_441 : decode cLa_law 441 = .ok (.iadd, 1) := by decide +kernel
theorem dLa_law_442 : decode cLa_law 442 = .ok (.iaload, 1) := by decide +kernel
theorem dLa_law_443 : decode cLa_law 443 = .ok (.aload_n 0, 1) := by decide +kernel
theorem dLa_law_444 : decode cLa_law 444 = .ok (.iload_n 3, 1) := by decide +kernel
theorem dLa_law_445 : decode cLa_law 445 = .ok (.iconst 3, 1) := by decide +kernel
theorem dLa_law_446 : decode cLa_law 446 = .ok (.iadd, 1) := by decide +kernel
theorem dLa_law_447 : decode cLa_law 447 = .ok (.iaload, 1) := by decide +kernel
theorem dLa_law_448 : decode cLa_law 448 = .ok (.invokevirtual 61, 3) := by decide +kernel
theorem dLa_law_451 : decode cLa_law 451 = .ok (.aload_n 2, 1) := by decide +kernel
theorem dLa_law_452 : decode cLa_law 452 = .ok (.aload_n 0, 1) := by decide +kernel
theorem dLa_law_453 : decode cLa_law 453 = .ok (.iload_n 3, 1) := by decide +kernel
theorem dLa_law_454 : decode cLa_law 454 = .ok (.iconst 1, 1) := by decide +kernel
theorem dLa_law_455 : decode cLa_law 455 = .ok (.iadd, 1) := by decide +kernel
theorem dLa_law_456 : decode cLa_law 456 = .ok (.iaload, 1) := by decide +kernel
theorem dLa_law_457 : decode cLa_law 457 = .ok (.aload_n 0, 1) := by decide +kernel
theorem dLa_law_458 : decode cLa_law 458 = .ok (.iload_n 3, 1) := by decide +kernel
theorem dLa_law_459 : decode cLa_law 459 = .ok (.iconst 2, 1) := by decide +kernel
theorem dLa_law_460 : decode cLa_law 460 = .ok (.iadd, 1) := by decide +kernel
theorem dLa_law_461 : decode cLa_law 461 = .ok (.iaload, 1) := by decide +kernel
theorem dLa_law_462 : decode cLa_law 462 = .ok (.aload_n 0, 1) := by decide +kernel
theorem dLa_law_463 : decode cLa_law 463 = .ok (.iload_n 3, 1) := by decide +kernel
theorem dLa_law_464 : decode cLa_law 464 = .ok (.iconst 3, 1) := by decide +kernel
theorem dLa_law_465 : decode cLa_law 465 = .ok (.iadd, 1) := by decide +kernel
theorem dLa_law_466 : decode cLa_law 466 = .ok (.iaload, 1) := by decide +kernel
theorem dLa_law_467 : decode cLa_law 467 = .ok (.invokevirtual 65, 3) := by decide +kernel
theorem dLa_law_470 : decode cLa_law 470 = .ok (.lcmp, 1) := by decide +kernel
theorem dLa_law_471 : decode cLa_law 471 = .ok (.ifCond .eq 252, 3) := by decide +kernel
theorem dLa_law_474 : decode cLa_law 474 = .ok (.iconst 0, 1) := by decide +kernel
theorem dLa_law_475 : decode cLa_law 475 = .ok (.ireturn, 1) := by decide +kernel
theorem dLa_law_476 : decode cLa_law 476 = .ok (.aload_n 1, 1) := by decide +kernel
theorem dLa_law_477 : decode cLa_law 477 = .ok (.invokevirtual 66, 3) := by decide +kernel
theorem dLa_law_480 : decode cLa_law 480 = .ok (.aload_n 2, 1) := by decide +kernel
theorem dLa_law_481 : decode cLa_law 481 = .ok (.invokevirtual 69, 3) := by decide +kernel
theorem dLa_law_484 : decode cLa_law 484 = .ok (.lcmp, 1) := by decide +kernel
theorem dLa_law_485 : decode cLa_law 485 = .ok (.ifCond .eq 238, 3) := by decide +kernel
theorem dLa_law_488 : decode cLa_law 488 = .ok (.iconst 0, 1) := by decide +kernel
theorem dLa_law_489 : decode cLa_law 489 = .ok (.ireturn, 1) := by decide +kernel
theorem dLa_law_490 : decode cLa_law 490 = .ok (.aload_n 1, 1) := by decide +kernel
theorem dLa_law_491 : decode cLa_law 491 = .ok (.aload_n 0, 1) := by decide +kernel
theorem dLa_law_492 : decode cLa_law 492 = .ok (.iload_n 3, 1) := by decide +kernel
theorem dLa_law_493 : decode cLa_law 493 = .ok (.iconst 1, 1) := by decide +kernel
theorem dLa_law_494 : decode cLa_law 494 = .ok (.iadd, 1) := by decide +kernel
theorem dLa_law_495 : decode cLa_law 495 = .ok (.iaload, 1) := by decide +kernel
theorem dLa_law_496 : decode cLa_law 496 = .ok (.invokevirtual 70, 3) := by decide +kernel
theorem dLa_law_499 : decode cLa_law 499 = .ok (.aload_n 2, 1) := by decide +kernel
theorem dLa_law_500 : decode cLa_law 500 = .ok (.aload_n 0, 1) := by decide +kernel
theorem dLa_law_501 : decode cLa_law 501 = .ok (.iload_n 3, 1) := by decide +kernel
theorem dLa_law_502 : decode cLa_law 502 = .ok (.iconst 1, 1) := by decide +kernel
theorem dLa_law_503 : decode cLa_law 503 = .ok (.iadd, 1) := by decide +kernel
theorem dLa_law_504 : decode cLa_law 504 = .ok (.iaload, 1) := by decide +kernel
theorem dLa_law_505 : decode cLa_law 505 = .ok (.invokevirtual 73, 3) := by decide +kernel
theorem dLa_law_508 : decode cLa_law 508 = .ok (.if_icmp .eq 215, 3) := by decide +kernel
theorem dLa_law_511 : decode cLa_law 511 = .ok (.iconst 0, 1) := by decide +kernel
theorem dLa_law_512 : decode cLa_law 512 = .ok (.ireturn, 1) := by decide +kernel
theorem dLa_law_513 : decode cLa_law 513 = .ok (.aload_n 1, 1) := by decide +kernel
theorem dLa_law_514 : decode cLa_law 514 = .ok (.aload_n 0, 1) := by decide +kernel
theorem dLa_law_515 : decode cLa_law 515 = .ok (.iload_n 3, 1) := by decide +kernel
theorem dLa_law_516 : decode cLa_law 516 = .ok (.iconst 1, 1) := by decide +kernel
theorem dLa_law_517 : decode cLa_law 517 = .ok (.iadd, 1) := by decide +kernel
theorem dLa_law_518 : decode cLa_law 518 = .ok (.iaload, 1) := by decide +kernel
theorem dLa_law_519 : decode cLa_law 519 = .ok (.aload_n 0, 1) := by decide +kernel
theorem dLa_law_520 : decode cLa_law 520 = .ok (.iload_n 3, 1) := by decide +kernel
theorem dLa_law_521 : decode cLa_law 521 = .ok (.iconst 2, 1) := by decide +kernel
theorem dLa_law_522 : decode cLa_law 522 = .ok (.iadd, 1) := by decide +kernel
theorem dLa_law_523 : decode cLa_law 523 = .ok (.iaload, 1) := by decide +kernel
theorem dLa_law_524 : decode cLa_law 524 = .ok (.invokevirtual 74, 3) := by decide +kernel
theorem dLa_law_527 : decode cLa_law 527 = .ok (.aload_n 2, 1) := by decide +kernel
theorem dLa_law_528 : decode cLa_law 528 = .ok (.aload_n 0, 1) := by decide +kernel
theorem dLa_law_529 : decode cLa_law 529 = .ok (.iload_n 3, 1) := by decide +kernel
theorem dLa_law_530 : decode cLa_law 530 = .ok (.iconst 1, 1) := by decide +kernel
theorem dLa_law_531 : decode cLa_law 531 = .ok (.iadd, 1) := by decide +kernel
theorem dLa_law_532 : decode cLa_law 532 = .ok (.iaload, 1) := by decide +kernel
theorem dLa_law_533 : decode cLa_law 533 = .ok (.aload_n 0, 1) := by decide +kernel
theorem dLa_law_534 : decode cLa_law 534 = .ok (.iload_n 3, 1) := by decide +kernel
theorem dLa_law_535 : decode cLa_law 535 = .ok (.iconst 2, 1) := by decide +kernel
theorem dLa_law_536 : decode cLa_law 536 = .ok (.iadd, 1) := by decide +kernel
theorem dLa_law_537 : decode cLa_law 537 = .ok (.iaload, 1) := by decide +kernel
theorem dLa_law_538 : decode cLa_law 538 = .ok (.invokevirtual 78, 3) := by decide +kernel
theorem dLa_law_541 : decode cLa_law 541 = .ok (.lcmp, 1) := by decide +kernel
theorem dLa_law_542 : decode cLa_law 542 = .ok (.ifCond .eq 181, 3) := by decide +kernel
theorem dLa_law_545 : decode cLa_law 545 = .ok (.iconst 0, 1) := by decide +kernel
theorem dLa_law_546 : decode cLa_law 546 = .ok (.ireturn, 1) := by decide +kernel
theorem dLa_law_547 : decode cLa_law 547 = .ok (.aload_n 1, 1) := by decide +kernel
theorem dLa_law_548 : decode cLa_law 548 = .ok (.invokevirtual 79, 3) := by decide +kernel
theorem dLa_law_551 : decode cLa_law 551 = .ok (.aload_n 2, 1) := by decide +kernel
theorem dLa_law_552 : decode cLa_law 552 = .ok (.invokevirtual 83, 3) := by decide +kernel
theorem dLa_law_555 : decode cLa_law 555 = .ok (.if_icmp .eq 168, 3) := by decide +kernel
theorem dLa_law_558 : decode cLa_law 558 = .ok (.iconst 0, 1) := by decide +kernel
theorem dLa_law_559 : decode cLa_law 559 = .ok (.ireturn, 1) := by decide +kernel
theorem dLa_law_560 : decode cLa_law 560 = .ok (.aload_n 1, 1) := by decide +kernel
theorem dLa_law_561 : decode cLa_law 561 = .ok (.aload_n 0, 1) := by decide +kernel
theorem dLa_law_562 : decode cLa_law 562 = .ok (.iload_n 3, 1) := by decide +kernel
theorem dLa_law_563 : decode cLa_law 563 = .ok (.iconst 1, 1) := by decide +kernel
theorem dLa_law_564 : decode cLa_law 564 = .ok (.iadd, 1) := by decide +kernel
theorem dLa_law_565 : decode cLa_law 565 = .ok (.iaload, 1) := by decide +kernel
theorem dLa_law_566 : decode cLa_law 566 = .ok (.aload_n 0, 1) := by decide +kernel
theorem dLa_law_567 : decode cLa_law 567 = .ok (.iload_n 3, 1) := by decide +kernel
theorem dLa_law_568 : decode cLa_law 568 = .ok (.iconst 2, 1) := by decide +kernel
theorem dLa_law_569 : decode cLa_law 569 = .ok (.iadd, 1) := by decide +kernel
theorem dLa_law_570 : decode cLa_law 570 = .ok (.iaload, 1) := by decide +kernel
theorem dLa_law_571 : decode cLa_law 571 = .ok (.invokevirtual 84, 3) := by decide +kernel
theorem dLa_law_574 : decode cLa_law 574 = .ok (.aload_n 2, 1) := by decide +kernel
theorem dLa_law_575 : decode cLa_law 575 = .ok (.aload_n 0, 1) := by decide +kernel
theorem dLa_law_576 : decode cLa_law 576 = .ok (.iload_n 3, 1) := by decide +kernel
theorem dLa_law_577 : decode cLa_law 577 = .ok (.iconst 1, 1) := by decide +kernel
theorem dLa_law_578 : decode cLa_law 578 = .ok (.iadd, 1) := by decide +kernel
theorem dLa_law_579 : decode cLa_law 579 = .ok (.iaload, 1) := by decide +kernel
theorem dLa_law_580 : decode cLa_law 580 = .ok (.aload_n 0, 1) := by decide +kernel
theorem dLa_law_581 : decode cLa_law 581 = .ok (.iload_n 3, 1) := by decide +kernel
theorem dLa_law_582 : decode cLa_law 582 = .ok (.iconst 2, 1) := by decide +kernel
theorem dLa_law_583 : decode cLa_law 583 = .ok (.iadd, 1) := by decide +kernel
theorem dLa_law_584 : decode cLa_law 584 = .ok (.iaload, 1) := by decide +kernel
theorem dLa_law_585 : decode cLa_law 585 = .ok (.invokevirtual 87, 3) := by decide +kernel
theorem dLa_law_588 : decode cLa_law 588 = .ok (.if_icmp .eq 135, 3) := by decide +kernel
theorem dLa_law_591 : decode cLa_law 591 = .ok (.iconst 0, 1) := by decide +kernel
theorem dLa_law_592 : decode cLa_law 592 = .ok (.ireturn, 1) := by decide +kernel
theorem dLa_law_593 : decode cLa_law 593 = .ok (.aload_n 1, 1) := by decide +kernel
theorem dLa_law_594 : decode cLa_law 594 = .ok (.aload_n 0, 1) := by decide +kernel
theorem dLa_law_595 : decode cLa_law 595 = .ok (.iload_n 3, 1) := by decide +kernel
theorem dLa_law_596 : decode cLa_law 596 = .ok (.iconst 1, 1) := by decide +kernel
theorem dLa_law_597 : decode cLa_law 597 = .ok (.iadd, 1) := by decide +kernel
theorem dLa_law_598 : decode cLa_law 598 = .ok (.iaload, 1) := by decide +kernel
theorem dLa_law_599 : decode cLa_law 599 = .ok (.i2l, 1) := by decide +kernel
theorem dLa_law_600 : decode cLa_law 600 = .ok (.bipush 32, 2) := by decide +kernel
theorem dLa_law_602 : decode cLa_law 602 = .ok (.lshl, 1) := by decide +kernel
theorem dLa_law_603 : decode cLa_law 603 = .ok (.aload_n 0, 1) := by decide +kernel
theorem dLa_law_604 : decode cLa_law 604 = .ok (.iload_n 3, 1) := by decide +kernel
theorem dLa_law_605 : decode cLa_law 605 = .ok (.iconst 2, 1) := by decide +kernel
theorem dLa_law_606 : decode cLa_law 606 = .ok (.iadd, 1) := by decide +kernel
theorem dLa_law_607 : decode cLa_law 607 = .ok (.iaload, 1) := by decide +kernel
theorem dLa_law_608 : decode cLa_law 608 = .ok (.i2l, 1) := by decide +kernel
theorem dLa_law_609 : decode cLa_law 609 = .ok (.ldc2_w 88, 3) := by decide +kernel
theorem dLa_law_612 : decode cLa_law 612 = .ok (.land, 1) := by decide +kernel
theorem dLa_law_613 : decode cLa_law 613 = .ok (.lor, 1) := by decide +kernel
theorem dLa_law_614 : decode cLa_law 614 = .ok (.aload_n 0, 1) := by decide +kernel
theorem dLa_law_615 : decode cLa_law 615 = .ok (.iload_n 3, 1) := by decide +kernel
theorem dLa_law_616 : decode cLa_law 616 = .ok (.iconst 3, 1) := by decide +kernel
theorem dLa_law_617 : decode cLa_law 617 = .ok (.iadd, 1) := by decide +kernel
theorem dLa_law_618 : decode cLa_law 618 = .ok (.iaload, 1) := by decide +kernel
theorem dLa_law_619 : decode cLa_law 619 = .ok (.invokevirtual 90, 3) := by decide +kernel
theorem dLa_law_622 : decode cLa_law 622 = .ok (.aload_n 2, 1) := by decide +kernel
theorem dLa_law_623 : decode cLa_law 623 = .ok (.aload_n 0, 1) := by decide +kernel
theorem dLa_law_624 : decode cLa_law 624 = .ok (.iload_n 3, 1) := by decide +kernel
theorem dLa_law_625 : decode cLa_law 625 = .ok (.iconst 1, 1) := by decide +kernel
theorem dLa_law_626 : decode cLa_law 626 = .ok (.iadd, 1) := by decide +kernel
theorem dLa_law_627 : decode cLa_law 627 = .ok (.iaload, 1) := by decide +kernel
theorem dLa_law_628 : decode cLa_law 628 = .ok (.i2l, 1) := by decide +kernel
theorem dLa_law_629 : decode cLa_law 629 = .ok (.bipush 32, 2) := by decide +kernel
theorem dLa_law_631 : decode cLa_law 631 = .ok (.lshl, 1) := by decide +kernel
theorem dLa_law_632 : decode cLa_law 632 = .ok (.aload_n 0, 1) := by decide +kernel
theorem dLa_law_633 : decode cLa_law 633 = .ok (.iload_n 3, 1) := by decide +kernel
theorem dLa_law_634 : decode cLa_law 634 = .ok (.iconst 2, 1) := by decide +kernel
theorem dLa_law_635 : decode cLa_law 635 = .ok (.iadd, 1) := by decide +kernel
theorem dLa_law_636 : decode cLa_law 636 = .ok (.iaload, 1) := by decide +kernel
theorem dLa_law_637 : decode cLa_law 637 = .ok (.i2l, 1) := by decide +kernel
theorem dLa_law_638 : decode cLa_law 638 = .ok (.ldc2_w 88, 3) := by decide +kernel
theorem dLa_law_641 : decode cLa_law 641 = .ok (.land, 1) := by decide +kernel
theorem dLa_law_642 : decode cLa_law 642 = .ok (.lor, 1) := by decide +kernel
theorem dLa_law_643 : decode cLa_law 643 = .ok (.aload_n 0, 1) := by decide +kernel
theorem dLa_law_644 : decode cLa_law 644 = .ok (.iload_n 3, 1) := by decide +kernel
theorem dLa_law_645 : decode cLa_law 645 = .ok (.iconst 3, 1) := by decide +kernel
theorem dLa_law_646 : decode cLa_law 646 = .ok (.iadd, 1) := by decide +kernel
theorem dLa_law_647 : decode cLa_law 647 = .ok (.iaload, 1) := by decide +kernel
theorem dLa_law_648 : decode cLa_law 648 = .ok (.invokevirtual 94, 3) := by decide +kernel
theorem dLa_law_651 : decode cLa_law 651 = .ok (.if_icmp .eq 72, 3) := by decide +kernel
theorem dLa_law_654 : decode cLa_law 654 = .ok (.iconst 0, 1) := by decide +kernel
theorem dLa_law_655 : decode cLa_law 655 = .ok (.ireturn, 1) := by decide +kernel
theorem dLa_law_656 : decode cLa_law 656 = .ok (.aload_n 1, 1) := by decide +kernel
theorem dLa_law_657 : decode cLa_law 657 = .ok (.aload_n 0, 1) := by decide +kernel
theorem dLa_law_658 : decode cLa_law 658 = .ok (.iload_n 3, 1) := by decide +kernel
theorem dLa_law_659 : decode cLa_law 659 = .ok (.iconst 1, 1) := by decide +kernel
theorem dLa_law_660 : decode cLa_law 660 = .ok (.iadd, 1) := by decide +kernel
theorem dLa_law_661 : decode cLa_law 661 = .ok (.iaload, 1) := by decide +kernel
theorem dLa_law_662 : decode cLa_law 662 = .ok (.aload_n 0, 1) := by decide +kernel
theorem dLa_law_663 : decode cLa_law 663 = .ok (.iload_n 3, 1) := by decide +kernel
theorem dLa_law_664 : decode cLa_law 664 = .ok (.iconst 2, 1) := by decide +kernel
theorem dLa_law_665 : decode cLa_law 665 = .ok (.iadd, 1) := by decide +kernel
theorem dLa_law_666 : decode cLa_law 666 = .ok (.iaload, 1) := by decide +kernel
theorem dLa_law_667 : decode cLa_law 667 = .ok (.aload_n 0, 1) := by decide +kernel
theorem dLa_law_668 : decode cLa_law 668 = .ok (.iload_n 3, 1) := by decide +kernel
theorem dLa_law_669 : decode cLa_law 669 = .ok (.iconst 3, 1) := by decide +kernel
theorem dLa_law_670 : decode cLa_law 670 = .ok (.iadd, 1) := by decide +kernel
theorem dLa_law_671 : decode cLa_law 671 = .ok (.iaload, 1) := by decide +kernel
theorem dLa_law_672 : decode cLa_law 672 = .ok (.invokevirtual 95, 3) := by decide +kernel
theorem dLa_law_675 : decode cLa_law 675 = .ok (.aload_n 2, 1) := by decide +kernel
theorem dLa_law_676 : decode cLa_law 676 = .ok (.aload_n 0, 1) := by decide +kernel
theorem dLa_law_677 : decode cLa_law 677 = .ok (.iload_n 3, 1) := by decide +kernel
theorem dLa_law_678 : decode cLa_law 678 = .ok (.iconst 1, 1) := by decide +kernel
theorem dLa_law_679 : decode cLa_law 679 = .ok (.iadd, 1) := by decide +kernel
theorem dLa_law_680 : decode cLa_law 680 = .ok (.iaload, 1) := by decide +kernel
theorem dLa_law_681 : decode cLa_law 681 = .ok (.aload_n 0, 1) := by decide +kernel
theorem dLa_law_682 : decode cLa_law 682 = .ok (.iload_n 3, 1) := by decide +kernel
theorem dLa_law_683 : decode cLa_law 683 = .ok (.iconst 2, 1) := by decide +kernel
theorem dLa_law_684 : decode cLa_law 684 = .ok (.iadd, 1) := by decide +kernel
theorem dLa_law_685 : decode cLa_law 685 = .ok (.iaload, 1) := by decide +kernel
theorem dLa_law_686 : decode cLa_law 686 = .ok (.aload_n 0, 1) := by decide +kernel
theorem dLa_law_687 : decode cLa_law 687 = .ok (.iload_n 3, 1) := by decide +kernel
theorem dLa_law_688 : decode cLa_law 688 = .ok (.iconst 3, 1) := by decide +kernel
theorem dLa_law_689 : decode cLa_law 689 = .ok (.iadd, 1) := by decide +kernel
theorem dLa_law_690 : decode cLa_law 690 = .ok (.iaload, 1) := by decide +kernel
theorem dLa_law_691 : decode cLa_law 691 = .ok (.invokevirtual 98, 3) := by decide +kernel
theorem dLa_law_694 : decode cLa_law 694 = .ok (.if_icmp .eq 29, 3) := by decide +kernel
theorem dLa_law_697 : decode cLa_law 697 = .ok (.iconst 0, 1) := by decide +kernel
theorem dLa_law_698 : decode cLa_law 698 = .ok (.ireturn, 1) := by decide +kernel
theorem dLa_law_699 : decode cLa_law 699 = .ok (.aload_n 1, 1) := by decide +kernel
theorem dLa_law_700 : decode cLa_law 700 = .ok (.aload_n 0, 1) := by decide +kernel
theorem dLa_law_701 : decode cLa_law 701 = .ok (.iload_n 3, 1) := by decide +kernel
theorem dLa_law_702 : decode cLa_law 702 = .ok (.iconst 1, 1) := by decide +kernel
theorem dLa_law_703 : decode cLa_law 703 = .ok (.iadd, 1) := by decide +kernel
theorem dLa_law_704 : decode cLa_law 704 = .ok (.iaload, 1) := by decide +kernel
theorem dLa_law_705 : decode cLa_law 705 = .ok (.invokevirtual 99, 3) := by decide +kernel
theorem dLa_law_708 : decode cLa_law 708 = .ok (.aload_n 2, 1) := by decide +kernel
theorem dLa_law_709 : decode cLa_law 709 = .ok (.aload_n 0, 1) := by decide +kernel
theorem dLa_law_710 : decode cLa_law 710 = .ok (.iload_n 3, 1) := by decide +kernel
theorem dLa_law_711 : decode cLa_law 711 = .ok (.iconst 1, 1) := by decide +kernel
theorem dLa_law_712 : decode cLa_law 712 = .ok (.iadd, 1) := by decide +kernel
theorem dLa_law_713 : decode cLa_law 713 = .ok (.iaload, 1) := by decide +kernel
theorem dLa_law_714 : decode cLa_law 714 = .ok (.invokevirtual 103, 3) := by decide +kernel
theorem dLa_law_717 : decode cLa_law 717 = .ok (.lcmp, 1) := by decide +kernel
theorem dLa_law_718 : decode cLa_law 718 = .ok (.ifCond .eq 5, 3) := by decide +kernel
theorem dLa_law_721 : decode cLa_law 721 = .ok (.iconst 0, 1) := by decide +kernel
theorem dLa_law_722 : decode cLa_law 722 = .ok (.ireturn, 1) := by decide +kernel
theorem dLa_law_723 : decode cLa_law 723 = .ok (.iinc 3 4, 3) := by decide +kernel
theorem dLa_law_726 : decode cLa_law 726 = .ok (.goto (-708), 3) := by decide +kernel
theorem dLa_law_729 : decode cLa_law 729 = .ok (.iconst 1, 1) := by decide +kernel
theorem dLa_law_730 : decode cLa_law 730 = .ok (.ireturn, 1) := by decide +kernel
end
section
-- ENGINE: short rows over the kit's rows. zT = the words of every method (the tables'); zw = a world with all that is known of it.
def zT : List Cond := lw_tbl.filter goodWord
theorem zT_good : ∀ w ∈ zT, (w.onTables && w.keeps) = true ∨ ∃ ty, w = .arrayClass ty := fun _ hw => good_of_word (List.mem_filter.mp hw).2
theorem zin {w : Cond} (h : w ∈ lw_tbl) (hg : goodWord w = true) : w ∈ zT := List.mem_filter.mpr ⟨h, hg⟩
theorem uz {C : String} {T : u_T} {N : Nat} (h : ∀ w ∈ u_ws C T N, w ∈ lw_tbl) : ∀ w ∈ u_ws C T N, w ∈ zT := by
  intro w hw
  refine zin (h w hw) ?_
  obtain ⟨k, -, rfl⟩ := List.mem_map.mp hw
  unfold u_lay
  split <;> rfl
/-- D.1, D.2 as the kit's; the array classes: int[] 0, long[] 1, Factor[] 2 -/
abbrev zG : Type := ((Nat → ClassId) × (Nat → Nat → Nat)) × (Nat → ClassId)
abbrev zty (G : zG) : List (ClassId × FieldType) := [(G.2 0, .int), (G.2 1, .long), (G.2 2, .object "TableOrders$Factor")]
abbrev zO (ci : Nat) (fs : List Value) : va_E := .inr (ci, fs)
abbrev zI (G : zG) (n : Nat) (f : Nat → Int32) : va_E := .inl (G.2 0, n, .inl f)
abbrev zL (G : zG) (n : Nat) (f : Nat → Int64) : va_E := .inl (G.2 1, n, .inr (.inl f))
abbrev zF (G : zG) (n : Nat) (f : Nat → Option Nat) : va_E := .inl (G.2 2, n, .inr (.inr (.inr (.inr f))))
section ZE
variable {p : Program} {l : Launch} {e : Env} {R : Room} {s : State} {m : MethodId} {args : Array Value} {below : List Frame} {meth : Method} {c : Code} {H : Heap} {locs : List Loc} {cells slots : Nat} {Q : State → Prop}
variable {cc : ByteArray} {pc : Nat} {ls : Array Slot} {rest : List Value} {G : zG} {A : Nat → Prop} {a : Nat} {ws ws' : va_W}
-- numbers
theorem z_iconst (hx : p.tables.exec = Jvm.exec) (hb : c.code = cc) {n : Int} {v : Int32} (hdg : decode cc pc = .ok (.iconst n, 1)) (hv : Int32.ofInt n = v) (k : W p l e R s m args below meth c H locs cells slots Q (F0 m (pc + 1) ls (.int v :: rest))) : W p l e R s m args below meth c H locs cells slots Q (F0 m pc ls rest) := lv_iconst hx hb hdg hv k
theorem z_addN (hx : p.tables.exec = Jvm.exec) (hb : c.code = cc) {x y : Nat} (hdg : decode cc pc = .ok (.iadd, 1)) (k : W p l e R s m args below meth c H locs cells slots Q (F0 m (pc + 1) ls (.int (nI (x + y)) :: rest))) : W p l e R s m args below meth c H locs cells slots Q (F0 m pc ls (.int (nI y) :: .int (nI x) :: rest)) :=
  lv_iadd hx hb hdg (by rw [nI_add]; exact k)
theorem z_mulN (hx : p.tables.exec = Jvm.exec) (hb : c.code = cc) {x y : Nat} (hdg : decode cc pc = .ok (.imul, 1)) (k : W p l e R s m args below meth c H locs cells slots Q (F0 m (pc + 1) ls (.int (nI (x * y)) :: rest))) : W p l e R s m args below meth c H locs cells slots Q (F0 m pc ls (.int (nI y) :: .int (nI x) :: rest)) :=
  lv_imul hx hb hdg (by rw [pk_mul]; exact k)
theorem z_subN (hx : p.tables.exec = Jvm.exec) (hb : c.code = cc) {x y : Nat} (h : y ≤ x) (hdg : decode cc pc = .ok (.isub, 1)) (k : W p l e R s m args below meth c H locs cells slots Q (F0 m (pc + 1) ls (.int (nI (x - y)) :: rest))) : W p l e R s m args below meth c H locs cells slots Q (F0 m pc ls (.int (nI y) :: .int (nI x) :: rest)) :=
  lv_isub hx hb hdg (by rw [pk_sub h]; exact k)
theorem z_divN (hx : p.tables.exec = Jvm.exec) (hb : c.code = cc) {x y : Nat} (h : x < 2 ^ 31) (h0 : 0 < y) (hy : y < 2 ^ 31) (hdg : decode cc pc = .ok (.idiv, 1)) (k : W p l e R s m args below meth c H locs cells slots Q (F0 m (pc + 1) ls (.int (nI (x / y)) :: rest))) : W p l e R s m args below meth c H locs cells slots Q (F0 m pc ls (.int (nI y) :: .int (nI x) :: rest)) :=
  lv_idiv hx hb hdg (nI_ne0 h0 hy) (by rw [pk_div h h0 hy]; exact k)
theorem z_remN (hx : p.tables.exec = Jvm.exec) (hb : c.code = cc) {x y : Nat} (h : x < 2 ^ 31) (h0 : 0 < y) (hy : y < 2 ^ 31) (hdg : decode cc pc = .ok (.irem, 1)) (k : W p l e R s m args below meth c H locs cells slots Q (F0 m (pc + 1) ls (.int (nI (x % y)) :: rest))) : W p l e R s m args below meth c H locs cells slots Q (F0 m pc ls (.int (nI y) :: .int (nI x) :: rest)) :=
  lv_irem hx hb hdg (nI_ne0 h0 hy) (by rw [pk_rem h h0 hy]; exact k)
theorem zb_and (a b : Nat) : nI a &&& nI b = nI (a &&& b) := by
  apply Int32.toBitVec_inj.1
  show BitVec.ofNat 32 a &&& BitVec.ofNat 32 b = BitVec.ofNat 32 (a &&& b)
  apply BitVec.eq_of_getLsbD_eq
  intro i hi
  simp [hi]
theorem zb_or (a b : Nat) : nI a ||| nI b = nI (a ||| b) := by
  apply Int32.toBitVec_inj.1
  show BitVec.ofNat 32 a ||| BitVec.ofNat 32 b = BitVec.ofNat 32 (a ||| b)
  apply BitVec.eq_of_getLsbD_eq
  intro i hi
  simp [hi]
theorem zb_xor (a b : Nat) : nI a ^^^ nI b = nI (a ^^^ b) := by
  apply Int32.toBitVec_inj.1
  show BitVec.ofNat 32 a ^^^ BitVec.ofNat 32 b = BitVec.ofNat 32 (a ^^^ b)
  apply BitVec.eq_of_getLsbD_eq
  intro i hi
  simp [hi]
theorem zb_sh : ∀ i, i < 32 → (nI 1) <<< (nI i &&& 31) = nI (2 ^ i) := by decide +kernel
theorem z_andN (hx : p.tables.exec = Jvm.exec) (hb : c.code = cc) {x y : Nat} (hdg : decode cc pc = .ok (.iand, 1)) (k : W p l e R s m args below meth c H locs cells slots Q (F0 m (pc + 1) ls (.int (nI (x &&& y)) :: rest))) : W p l e R s m args below meth c H locs cells slots Q (F0 m pc ls (.int (nI y) :: .int (nI x) :: rest)) :=
  lv_iand hx hb hdg (by rw [zb_and]; exact k)
theorem z_orN (hx : p.tables.exec = Jvm.exec) (hb : c.code = cc) {x y : Nat} (hdg : decode cc pc = .ok (.ior, 1)) (k : W p l e R s m args below meth c H locs cells slots Q (F0 m (pc + 1) ls (.int (nI (x ||| y)) :: rest))) : W p l e R s m args below meth c H locs cells slots Q (F0 m pc ls (.int (nI y) :: .int (nI x) :: rest)) :=
  lv_ior hx hb hdg (by rw [zb_or]; exact k)
theorem z_xorN (hx : p.tables.exec = Jvm.exec) (hb : c.code = cc) {x y : Nat} (hdg : decode cc pc = .ok (.ixor, 1)) (k : W p l e R s m args below meth c H locs cells slots Q (F0 m (pc + 1) ls (.int (nI (x ^^^ y)) :: rest))) : W p l e R s m args below meth c H locs cells slots Q (F0 m pc ls (.int (nI y) :: .int (nI x) :: rest)) :=
  lv_ixor hx hb hdg (by rw [zb_xor]; exact k)
theorem z_shl1 (hx : p.tables.exec = Jvm.exec) (hb : c.code = cc) {y : Nat} (h : y < 32) (hdg : decode cc pc = .ok (.ishl, 1)) (k : W p l e R s m args below meth c H locs cells slots Q (F0 m (pc + 1) ls (.int (nI (2 ^ y)) :: rest))) : W p l e R s m args below meth c H locs cells slots Q (F0 m pc ls (.int (nI y) :: .int (nI 1) :: rest)) :=
  lv_ishl hx hb hdg (by rw [zb_sh y h]; exact k)
theorem z_iinc {i nL k : Nat} {n : Int} {d x : Nat} {lv lv' : List (Nat × Value)} (hx : p.tables.exec = Jvm.exec) (hb : c.code = cc) (hdg : decode cc pc = .ok (.iinc i n, 3)) (hl0 : lv_has ls nL lv) (hk : lv[k]? = some (i, .int (nI x))) (hd : Int32.ofInt n = nI d) (hn : i < nL) (hl : (i, Value.int (nI (x + d))) :: lv.filter (fun q => !(q.1 == i) && !(q.1 + 1 == i && q.2.category == 2)) = lv')
    (kk : ∀ ls' : Array Slot, lv_has ls' nL lv' → W p l e R s m args below meth c H locs cells slots Q (F0 m (pc + 3) ls' rest)) : W p l e R s m args below meth c H locs cells slots Q (F0 m pc ls rest) :=
  lv_iinc (v := nI (x + d)) hx hb hdg hl0 hk (by rw [hd, nI_add]) hn hl kk
-- branches on counted numbers
theorem z_icmpge (hx : p.tables.exec = Jvm.exec) (hb : c.code = cc) {x y : Nat} {off : Int} {tgt : Nat} (h1 : x < 2 ^ 31) (h2 : y < 2 ^ 31) (hdg : decode cc pc = .ok (.if_icmp .ge off, 3)) (ht : (pc : Int) + off = (tgt : Int))
    (kt : y ≤ x → W p l e R s m args below meth c H locs cells slots Q (F0 m tgt ls rest)) (kf : x < y → W p l e R s m args below meth c H locs cells slots Q (F0 m (pc + 3) ls rest)) : W p l e R s m args below meth c H locs cells slots Q (F0 m pc ls (.int (nI y) :: .int (nI x) :: rest)) :=
  lv_icmp_ge hx hb hdg ht (fun q => kt ((nI_leI h2 h1).mp q)) (fun q => kf (Nat.lt_of_not_le (fun z => q ((nI_leI h2 h1).mpr z))))
theorem z_icmplt (hx : p.tables.exec = Jvm.exec) (hb : c.code = cc) {x y : Nat} {off : Int} {tgt : Nat} (h1 : x < 2 ^ 31) (h2 : y < 2 ^ 31) (hdg : decode cc pc = .ok (.if_icmp .lt off, 3)) (ht : (pc : Int) + off = (tgt : Int))
    (kt : x < y → W p l e R s m args below meth c H locs cells slots Q (F0 m tgt ls rest)) (kf : y ≤ x → W p l e R s m args below meth c H locs cells slots Q (F0 m (pc + 3) ls rest)) : W p l e R s m args below meth c H locs cells slots Q (F0 m pc ls (.int (nI y) :: .int (nI x) :: rest)) :=
  lv_icmp_lt hx hb hdg ht (fun q => kt ((nI_ltI h1 h2).mp q)) (fun q => kf (Nat.le_of_not_lt (fun z => q ((nI_ltI h1 h2).mpr z))))
theorem z_icmple (hx : p.tables.exec = Jvm.exec) (hb : c.code = cc) {x y : Nat} {off : Int} {tgt : Nat} (h1 : x < 2 ^ 31) (h2 : y < 2 ^ 31) (hdg : decode cc pc = .ok (.if_icmp .le off, 3)) (ht : (pc : Int) + off = (tgt : Int))
    (kt : x ≤ y → W p l e R s m args below meth c H locs cells slots Q (F0 m tgt ls rest)) (kf : y < x → W p l e R s m args below meth c H locs cells slots Q (F0 m (pc + 3) ls rest)) : W p l e R s m args below meth c H locs cells slots Q (F0 m pc ls (.int (nI y) :: .int (nI x) :: rest)) :=
  lv_icmp_le hx hb hdg ht (fun q => kt ((nI_leI h1 h2).mp q)) (fun q => kf (Nat.lt_of_not_le (fun z => q ((nI_leI h1 h2).mpr z))))
theorem z_icmpgt (hx : p.tables.exec = Jvm.exec) (hb : c.code = cc) {x y : Nat} {off : Int} {tgt : Nat} (h1 : x < 2 ^ 31) (h2 : y < 2 ^ 31) (hdg : decode cc pc = .ok (.if_icmp .gt off, 3)) (ht : (pc : Int) + off = (tgt : Int))
    (kt : y < x → W p l e R s m args below meth c H locs cells slots Q (F0 m tgt ls rest)) (kf : x ≤ y → W p l e R s m args below meth c H locs cells slots Q (F0 m (pc + 3) ls rest)) : W p l e R s m args below meth c H locs cells slots Q (F0 m pc ls (.int (nI y) :: .int (nI x) :: rest)) :=
  lv_icmp_gt hx hb hdg ht (fun q => kt ((nI_ltI h2 h1).mp q)) (fun q => kf (Nat.le_of_not_lt (fun z => q ((nI_ltI h2 h1).mpr z))))
theorem z_icmpeq (hx : p.tables.exec = Jvm.exec) (hb : c.code = cc) {x y : Nat} {off : Int} {tgt : Nat} (h1 : x < 2 ^ 31) (h2 : y < 2 ^ 31) (hdg : decode cc pc = .ok (.if_icmp .eq off, 3)) (ht : (pc : Int) + off = (tgt : Int))
    (kt : x = y → W p l e R s m args below meth c H locs cells slots Q (F0 m tgt ls rest)) (kf : x ≠ y → W p l e R s m args below meth c H locs cells slots Q (F0 m (pc + 3) ls rest)) : W p l e R s m args below meth c H locs cells slots Q (F0 m pc ls (.int (nI y) :: .int (nI x) :: rest)) :=
  lv_icmp_eq hx hb hdg ht (fun q => kt ((nI_eq h1 h2).mp q)) (fun q => kf (fun z => q ((nI_eq h1 h2).mpr z)))
theorem z_icmpne (hx : p.tables.exec = Jvm.exec) (hb : c.code = cc) {x y : Nat} {off : Int} {tgt : Nat} (h1 : x < 2 ^ 31) (h2 : y < 2 ^ 31) (hdg : decode cc pc = .ok (.if_icmp .ne off, 3)) (ht : (pc : Int) + off = (tgt : Int))
    (kt : x ≠ y → W p l e R s m args below meth c H locs cells slots Q (F0 m tgt ls rest)) (kf : x = y → W p l e R s m args below meth c H locs cells slots Q (F0 m (pc + 3) ls rest)) : W p l e R s m args below meth c H locs cells slots Q (F0 m pc ls (.int (nI y) :: .int (nI x) :: rest)) :=
  lv_icmp_ne hx hb hdg ht (fun q => kt (fun z => q ((nI_eq h1 h2).mpr z))) (fun q => kf ((nI_eq h1 h2).mp q))
theorem z_ifeqN (hx : p.tables.exec = Jvm.exec) (hb : c.code = cc) {x : Nat} {off : Int} {tgt : Nat} (h1 : x < 2 ^ 31) (hdg : decode cc pc = .ok (.ifCond .eq off, 3)) (ht : (pc : Int) + off = (tgt : Int))
    (kt : x = 0 → W p l e R s m args below meth c H locs cells slots Q (F0 m tgt ls rest)) (kf : x ≠ 0 → W p l e R s m args below meth c H locs cells slots Q (F0 m (pc + 3) ls rest)) : W p l e R s m args below meth c H locs cells slots Q (F0 m pc ls (.int (nI x) :: rest)) :=
  lv_if_eq hx hb hdg ht (fun q => kt ((nI_eq h1 (by decide)).mp (q.trans nI_0.symm))) (fun q => kf (fun z => q (by rw [z, nI_0])))
theorem z_ifneN (hx : p.tables.exec = Jvm.exec) (hb : c.code = cc) {x : Nat} {off : Int} {tgt : Nat} (h1 : x < 2 ^ 31) (hdg : decode cc pc = .ok (.ifCond .ne off, 3)) (ht : (pc : Int) + off = (tgt : Int))
    (kt : x ≠ 0 → W p l e R s m args below meth c H locs cells slots Q (F0 m tgt ls rest)) (kf : x = 0 → W p l e R s m args below meth c H locs cells slots Q (F0 m (pc + 3) ls rest)) : W p l e R s m args below meth c H locs cells slots Q (F0 m pc ls (.int (nI x) :: rest)) :=
  lv_if_ne hx hb hdg ht (fun q => kt (fun z => q (by rw [z, nI_0]))) (fun q => kf ((nI_eq h1 (by decide)).mp (q.trans nI_0.symm)))
-- a bit of a set
theorem zb_bit {S i : Nat} (hS : S < 2 ^ 31) : nI (S &&& 2 ^ i) = 0 ↔ S.testBit i = false := by
  have hle : S &&& 2 ^ i < 2 ^ 31 := Nat.lt_of_le_of_lt Nat.and_le_left hS
  rw [← nI_0, nI_eq hle (by decide)]
  constructor
  · intro h
    have h2 : (S &&& 2 ^ i).testBit i = false := by rw [h]; exact Nat.zero_testBit i
    rw [Nat.testBit_and, Nat.testBit_two_pow] at h2
    simpa using h2
  · intro h
    apply Nat.eq_of_testBit_eq
    intro j
    rw [Nat.testBit_and, Nat.testBit_two_pow, Nat.zero_testBit]
    by_cases hj : i = j
    · subst hj
      rw [h]
      rfl
    · simp [hj]
theorem z_ifeqbit (hx : p.tables.exec = Jvm.exec) (hb : c.code = cc) {S i : Nat} {off : Int} {tgt : Nat} (hS : S < 2 ^ 31) (hdg : decode cc pc = .ok (.ifCond .eq off, 3)) (ht : (pc : Int) + off = (tgt : Int))
    (kt : S.testBit i = false → W p l e R s m args below meth c H locs cells slots Q (F0 m tgt ls rest)) (kf : S.testBit i = true → W p l e R s m args below meth c H locs cells slots Q (F0 m (pc + 3) ls rest)) : W p l e R s m args below meth c H locs cells slots Q (F0 m pc ls (.int (nI (S &&& 2 ^ i)) :: rest)) :=
  lv_if_eq hx hb hdg ht (fun q => kt ((zb_bit hS).mp q)) (fun q => kf (by cases h : S.testBit i; exact absurd ((zb_bit hS).mpr h) q; rfl))
theorem z_ifnebit (hx : p.tables.exec = Jvm.exec) (hb : c.code = cc) {S i : Nat} {off : Int} {tgt : Nat} (hS : S < 2 ^ 31) (hdg : decode cc pc = .ok (.ifCond .ne off, 3)) (ht : (pc : Int) + off = (tgt : Int))
    (kt : S.testBit i = true → W p l e R s m args below meth c H locs cells slots Q (F0 m tgt ls rest)) (kf : S.testBit i = false → W p l e R s m args below meth c H locs cells slots Q (F0 m (pc + 3) ls rest)) : W p l e R s m args below meth c H locs cells slots Q (F0 m pc ls (.int (nI (S &&& 2 ^ i)) :: rest)) :=
  lv_if_ne hx hb hdg ht (fun q => kt (by cases h : S.testBit i; exact absurd ((zb_bit hS).mpr h) q; rfl)) (fun q => kf ((zb_bit hS).mp q))
-- truths
noncomputable def bI (P : Prop) : Int32 := @ite Int32 P (Classical.propDecidable P) 1 0
theorem bI_0 {P : Prop} : bI P = 0 ↔ ¬ P := by
  unfold bI
  by_cases h : P <;> simp [h]
theorem z_ifeqB (hx : p.tables.exec = Jvm.exec) (hb : c.code = cc) {P : Prop} {off : Int} {tgt : Nat} (hdg : decode cc pc = .ok (.ifCond .eq off, 3)) (ht : (pc : Int) + off = (tgt : Int))
    (kt : ¬ P → W p l e R s m args below meth c H locs cells slots Q (F0 m tgt ls rest)) (kf : P → W p l e R s m args below meth c H locs cells slots Q (F0 m (pc + 3) ls rest)) : W p l e R s m args below meth c H locs cells slots Q (F0 m pc ls (.int (bI P) :: rest)) :=
  lv_if_eq hx hb hdg ht (fun q => kt (bI_0.mp q)) (fun q => kf (Classical.byContradiction (fun z => q (bI_0.mpr z))))
theorem z_ifneB (hx : p.tables.exec = Jvm.exec) (hb : c.code = cc) {P : Prop} {off : Int} {tgt : Nat} (hdg : decode cc pc = .ok (.ifCond .ne off, 3)) (ht : (pc : Int) + off = (tgt : Int))
    (kt : P → W p l e R s m args below meth c H locs cells slots Q (F0 m tgt ls rest)) (kf : ¬ P → W p l e R s m args below meth c H locs cells slots Q (F0 m (pc + 3) ls rest)) : W p l e R s m args below meth c H locs cells slots Q (F0 m pc ls (.int (bI P) :: rest)) :=
  lv_if_ne hx hb hdg ht (fun q => kt (Classical.byContradiction (fun z => q (bI_0.mpr z)))) (fun q => kf (bI_0.mp q))
end ZE
-- reading: the tables, and the cells that are held
def zr (G : zG) (s : State) (ws : va_W) (H : Heap) : Prop := va_K G.1 vwCl (zty G) s ∧ va_P G.1 vwCl ws H
def zw (G : zG) (A : Nat → Prop) (s : State) (ws : va_W) (H : Heap) (locs : List Loc) : Prop :=
  zr G s ws H ∧ va_D A ws ∧ va_S A s.heap H locs ∧ ∀ q, s.heap.size ≤ q → A q
theorem zfm {ws ws' : va_W} {is : List Nat} (hs : is.map (fun i => ws[i]?) = ws'.map some) : is.filterMap (fun i => ws[i]?) = ws' := by
  have e1 : (is.map (fun i => ws[i]?)).filterMap id = (ws'.map some).filterMap id := by rw [hs]
  rw [List.filterMap_map, List.filterMap_map] at e1
  simpa [Function.comp_def] using e1
theorem zr.sub {G : zG} {s : State} {ws ws' : va_W} {H : Heap} (r : zr G s ws H) (is : List Nat) (hs : is.filterMap (fun i => ws[i]?) = ws') : zr G s ws' H := ⟨r.1, r.2.sub is hs⟩
theorem zw.perm {G : zG} {A : Nat → Prop} {s : State} {ws ws' : va_W} {H : Heap} {locs : List Loc} (w : zw G A s ws H locs) (is : List Nat) (hn : va_nd is = true) (hs : is.map (fun i => ws[i]?) = ws'.map some) : zw G A s ws' H locs :=
  ⟨⟨w.1.1, w.1.2.sub is (zfm hs)⟩, w.2.1.sub is hn hs, w.2.2.1, w.2.2.2⟩
theorem zw.eq {G : zG} {A : Nat → Prop} {s : State} {ws ws' : va_W} {H : Heap} {locs : List Loc} (w : zw G A s ws H locs) (h : ws = ws') : zw G A s ws' H locs := h ▸ w
section ZA
variable {p : Program} {l : Launch} {e : Env} {R : Room} {s : State} {m : MethodId} {args : Array Value} {below : List Frame} {meth : Method} {c : Code} {H : Heap} {locs : List Loc} {cells slots : Nat} {Q : State → Prop}
variable {cc : ByteArray} {pc nL : Nat} {ls : Array Slot} {rest : List Value} {G : zG} {A : Nat → Prop} {a : Nat} {ws ws' : va_W}
theorem z_get {own C : String} {T : u_T} {N ci index : Nat} (k : Nat) (S : CallFix p m c cc nL s args zT own) (hin : ∀ w ∈ u_ws C T N, w ∈ zT) (hc : vwCl[ci]? = some (C, T, N)) (hk : k < N) (hC : (T k).1 = C) (hlink : Cond.fieldLink own index C (T k).2.1 (T k).2.2.1 ∈ zT) (r : zr G s ws H) (q0 : Nat) {fs : List Value} (he : ws[q0]? = some (a, .inr (ci, fs))) {v : Value} (hv : fs[k]? = some v) (hdg : decode cc pc = .ok (.getfield index, 3))
    (kk : W p l e R s m args below meth c H locs cells slots Q (F0 m (pc + 3) ls (v :: rest))) : W p l e R s m args below meth c H locs cells slots Q (F0 m pc ls (.ref a :: rest)) :=
  va_get (D := G.1) (ci := ci) (C := C) (T := T) (N := N) S.1 S.2.1 S.2.2.2.2 hin S.2.2.2.1 r.1 r.2 q0 he hc k hk (S.2.2.2.2 _ hlink) (fun x h => by rw [hC] at h; exact h) hv hdg kk
theorem z_put {own C : String} {T : u_T} {N ci index : Nat} (k : Nat) (S : CallFix p m c cc nL s args zT own) (hin : ∀ w ∈ u_ws C T N, w ∈ zT) (ty0 : Nat → FieldType) (hty : ∀ k, k < N → parseFieldDescriptor (T k).2.2.1 = some (ty0 k)) (hnm : ∀ a, a < N → ∀ b, b < N → a ≠ b → (T a).2.1 ≠ (T b).2.1) (hc : vwCl[ci]? = some (C, T, N)) (hk : k < N) (hC : (T k).1 = C) (hlink : Cond.fieldLink own index C (T k).2.1 (T k).2.2.1 ∈ zT) (hfin : (T k).2.2.2 = false)
    (w : zw G A s ws H locs) (q0 : Nat) {fs : List Value} (he : ws[q0]? = some (a, .inr (ci, fs))) {v : Value} (hn : narrow (ty0 k) v = v) (hfit : fits (ty0 k) v = true) (hl : k < fs.length) (hw : ws.set q0 (a, .inr (ci, fs.set k v)) = ws') (hdg : decode cc pc = .ok (.putfield index, 3))
    (kk : ∀ (H1 : Heap) (locs1 : List Loc), zw G A s ws' H1 locs1 → W p l e R s m args below meth c H1 locs1 cells slots Q (F0 m (pc + 3) ls rest)) : W p l e R s m args below meth c H locs cells slots Q (F0 m pc ls (v :: .ref a :: rest)) := by
  subst hw
  exact va_put (D := G.1) (ci := ci) (C := C) (T := T) (N := N) S.1 S.2.1 S.2.2.2.2 hin ty0 hty hnm S.2.2.2.1 w.1.1 w.1.2 w.2.1 w.2.2.1 q0 he hc k hk (S.2.2.2.2 _ hlink) (fun x h => by rw [hC] at h; exact h) hfin (hty k hk) hn hfit hl hdg (fun H1 locs1 hP hD hS => kk H1 locs1 ⟨⟨w.1.1, hP⟩, hD, hS, w.2.2.2⟩)
theorem z_putF {own C : String} {T : u_T} {N ci index : Nat} (k : Nat) (S : CallFix p m c cc nL s args zT own) (hin : ∀ w ∈ u_ws C T N, w ∈ zT) (ty0 : Nat → FieldType) (hty : ∀ k, k < N → parseFieldDescriptor (T k).2.2.1 = some (ty0 k)) (hnm : ∀ a, a < N → ∀ b, b < N → a ≠ b → (T a).2.1 ≠ (T b).2.1) (hc : vwCl[ci]? = some (C, T, N)) (hk : k < N) (hC : (T k).1 = C) (hlink : Cond.fieldLink own index C (T k).2.1 (T k).2.2.1 ∈ zT) (hfin : (T k).2.2.2 = true) (hCo : C = own) (hin2 : meth.name = "<init>")
    (w : zw G A s ws H locs) (q0 : Nat) {fs : List Value} (he : ws[q0]? = some (a, .inr (ci, fs))) {v : Value} (hn : narrow (ty0 k) v = v) (hfit : fits (ty0 k) v = true) (hl : k < fs.length) (hw : ws.set q0 (a, .inr (ci, fs.set k v)) = ws') (hdg : decode cc pc = .ok (.putfield index, 3))
    (kk : ∀ (H1 : Heap) (locs1 : List Loc), zw G A s ws' H1 locs1 → W p l e R s m args below meth c H1 locs1 cells slots Q (F0 m (pc + 3) ls rest)) : W p l e R s m args below meth c H locs cells slots Q (F0 m pc ls (v :: .ref a :: rest)) := by
  subst hw
  exact va_putF (D := G.1) (ci := ci) (C := C) (T := T) (N := N) S.1 S.2.1 S.2.2.2.2 hin ty0 hty hnm S.2.2.2.1 w.1.1 w.1.2 w.2.1 w.2.2.1 q0 he hc k hk (S.2.2.2.2 _ hlink) (fun x h => by rw [hC] at h; exact h) hfin hin2 (hC.trans hCo) (hty k hk) hn hfit hl hdg (fun H1 locs1 hP hD hS => kk H1 locs1 ⟨⟨w.1.1, hP⟩, hD, hS, w.2.2.2⟩)
-- arrays
theorem z_iald (hx : p.tables.exec = Jvm.exec) (hb : c.code = cc) (r : zr G s ws H) (q0 : Nat) {n k : Nat} {f : Nat → Int32} (ha : ws[q0]? = some (a, zI G n f)) (hk : k < n) (hn : n < 2 ^ 31) (hdg : decode cc pc = .ok (.iaload, 1))
    (kk : W p l e R s m args below meth c H locs cells slots Q (F0 m (pc + 1) ls (.int (f k) :: rest))) : W p l e R s m args below meth c H locs cells slots Q (F0 m pc ls (.int (nI k) :: .ref a :: rest)) :=
  va_iald hx hb r.1 r.2 q0 0 ha rfl (vp_in_nI hk hn) hdg (by rw [nI_clamp (Nat.lt_trans hk hn)]; exact kk)
theorem z_lald (hx : p.tables.exec = Jvm.exec) (hb : c.code = cc) (r : zr G s ws H) (q0 : Nat) {n k : Nat} {f : Nat → Int64} (ha : ws[q0]? = some (a, zL G n f)) (hk : k < n) (hn : n < 2 ^ 31) (hdg : decode cc pc = .ok (.laload, 1))
    (kk : W p l e R s m args below meth c H locs cells slots Q (F0 m (pc + 1) ls (.long (f k) :: rest))) : W p l e R s m args below meth c H locs cells slots Q (F0 m pc ls (.int (nI k) :: .ref a :: rest)) :=
  va_lald hx hb r.1 r.2 q0 1 ha rfl (vp_in_nI hk hn) hdg (by rw [nI_clamp (Nat.lt_trans hk hn)]; exact kk)
theorem z_aald (hx : p.tables.exec = Jvm.exec) (hb : c.code = cc) (r : zr G s ws H) (q0 : Nat) {n k : Nat} {f : Nat → Option Nat} (ha : ws[q0]? = some (a, zF G n f)) (hk : k < n) (hn : n < 2 ^ 31) (hdg : decode cc pc = .ok (.aaload, 1))
    (kk : W p l e R s m args below meth c H locs cells slots Q (F0 m (pc + 1) ls (va_rf (f k) :: rest))) : W p l e R s m args below meth c H locs cells slots Q (F0 m pc ls (.int (nI k) :: .ref a :: rest)) :=
  va_aldq hx hb r.1 r.2 q0 2 ha rfl (vp_in_nI hk hn) hdg (by rw [nI_clamp (Nat.lt_trans hk hn)]; exact kk)
theorem z_ilen (hx : p.tables.exec = Jvm.exec) (hb : c.code = cc) (r : zr G s ws H) (q0 : Nat) {n : Nat} {f : Nat → Int32} (ha : ws[q0]? = some (a, zI G n f)) (hdg : decode cc pc = .ok (.arraylength, 1))
    (kk : W p l e R s m args below meth c H locs cells slots Q (F0 m (pc + 1) ls (.int (nI n) :: rest))) : W p l e R s m args below meth c H locs cells slots Q (F0 m pc ls (.ref a :: rest)) :=
  va_alen hx hb r.1 r.2 q0 0 ha rfl rfl hdg kk
theorem z_llen (hx : p.tables.exec = Jvm.exec) (hb : c.code = cc) (r : zr G s ws H) (q0 : Nat) {n : Nat} {f : Nat → Int64} (ha : ws[q0]? = some (a, zL G n f)) (hdg : decode cc pc = .ok (.arraylength, 1))
    (kk : W p l e R s m args below meth c H locs cells slots Q (F0 m (pc + 1) ls (.int (nI n) :: rest))) : W p l e R s m args below meth c H locs cells slots Q (F0 m pc ls (.ref a :: rest)) :=
  va_alen hx hb r.1 r.2 q0 1 ha rfl rfl hdg kk
theorem z_iast (hx : p.tables.exec = Jvm.exec) (hb : c.code = cc) (w : zw G A s ws H locs) (q0 : Nat) {n k : Nat} {f : Nat → Int32} {x : Int32} (ha : ws[q0]? = some (a, zI G n f)) (hk : k < n) (hn : n < 2 ^ 31) (hw : ws.set q0 (a, zI G n (upd f k x)) = ws') (hdg : decode cc pc = .ok (.iastore, 1))
    (kk : ∀ (H1 : Heap) (locs1 : List Loc), zw G A s ws' H1 locs1 → W p l e R s m args below meth c H1 locs1 cells slots Q (F0 m (pc + 1) ls rest)) : W p l e R s m args below meth c H locs cells slots Q (F0 m pc ls (.int x :: .int (nI k) :: .ref a :: rest)) := by
  subst hw
  exact va_iast hx hb w.1.1 w.1.2 w.2.1 w.2.2.1 q0 0 ha rfl (vp_in_nI hk hn) hdg (fun H1 locs1 hP hD hS => by
    rw [nI_clamp (Nat.lt_trans hk hn)] at hP hD
    exact kk H1 locs1 ⟨⟨w.1.1, hP⟩, hD, hS, w.2.2.2⟩)
theorem z_last (hx : p.tables.exec = Jvm.exec) (hb : c.code = cc) (w : zw G A s ws H locs) (q0 : Nat) {n k : Nat} {f : Nat → Int64} {x : Int64} (ha : ws[q0]? = some (a, zL G n f)) (hk : k < n) (hn : n < 2 ^ 31) (hw : ws.set q0 (a, zL G n (vp_updL f k x)) = ws') (hdg : decode cc pc = .ok (.lastore, 1))
    (kk : ∀ (H1 : Heap) (locs1 : List Loc), zw G A s ws' H1 locs1 → W p l e R s m args below meth c H1 locs1 cells slots Q (F0 m (pc + 1) ls rest)) : W p l e R s m args below meth c H locs cells slots Q (F0 m pc ls (.long x :: .int (nI k) :: .ref a :: rest)) := by
  subst hw
  exact va_last hx hb w.1.1 w.1.2 w.2.1 w.2.2.1 q0 1 ha rfl (vp_in_nI hk hn) hdg (fun H1 locs1 hP hD hS => by
    rw [nI_clamp (Nat.lt_trans hk hn)] at hP hD
    exact kk H1 locs1 ⟨⟨w.1.1, hP⟩, hD, hS, w.2.2.2⟩)
theorem z_cA {cA : ClassId} {tys : List (ClassId × FieldType)} {D : va_G} {ty : FieldType} {t0 t1 : Nat} {cB : ClassId} (hK : va_K D vwCl tys s) (h0 : tys[t0]? = some (cA, ty)) (h1 : tys[t1]? = some (cB, ty)) (hty : ∀ C, ty ≠ .object C) : cA = cB := by
  have a1 := (hK.2 t0 _ h0).2
  have a2 := (hK.2 t1 _ h1).2
  have b1 : s.vm.findClass ("[" ++ ty.toString) = some cA := by cases ty <;> first | exact a1 | exact absurd rfl (hty _)
  have b2 : s.vm.findClass ("[" ++ ty.toString) = some cB := by cases ty <;> first | exact a2 | exact absurd rfl (hty _)
  rw [b1] at b2
  exact Option.some.inj b2
theorem z_newi (hx : p.tables.exec = Jvm.exec) (hb : c.code = cc) (hts : ∀ w ∈ zT, w.before args s = true) (harr : Cond.arrayClass .int ∈ zT) (w : zw G A s ws H locs) {N : Nat} (hN : N ≤ 100000) (hcells : cells + 1 ≤ R.cells) (hslots : slots + N ≤ R.slots) (hdg : decode cc pc = .ok (.newarray .int, 2))
    (kk : ∀ (q : Nat) (H1 : Heap), zw G A s (ws ++ [(q, zI G N (fun _ => 0))]) H1 locs → W p l e R s m args below meth c H1 locs (cells + 1) (slots + N) Q (F0 m (pc + 2) ls (.ref q :: rest))) : W p l e R s m args below meth c H locs cells slots Q (F0 m pc ls (.int (nI N) :: rest)) := by
  refine va_newa (atype := .int) (a0 := (N, .inl (fun _ => 0))) (N' := N) hx hb (hts _ harr) rfl w.1.1 w.1.2 w.2.1 w.2.2.1 w.2.2.2 (fun cA => rfl) (nI_pos (by omega)) (nI_clamp (by omega)) (by show N * 4 ≤ _; omega) hcells hslots hdg (fun q cA H1 hK hP hD hS => ?_)
  have hc : cA = G.2 0 := z_cA (t0 := 3) (t1 := 0) hK rfl rfl (fun C h => by cases h)
  subst hc
  exact kk q H1 ⟨⟨w.1.1, hP⟩, hD, hS, w.2.2.2⟩
theorem z_newl (hx : p.tables.exec = Jvm.exec) (hb : c.code = cc) (hts : ∀ w ∈ zT, w.before args s = true) (harr : Cond.arrayClass .long ∈ zT) (w : zw G A s ws H locs) {N : Nat} (hN : N ≤ 100000) (hcells : cells + 1 ≤ R.cells) (hslots : slots + N ≤ R.slots) (hdg : decode cc pc = .ok (.newarray .long, 2))
    (kk : ∀ (q : Nat) (H1 : Heap), zw G A s (ws ++ [(q, zL G N (fun _ => 0))]) H1 locs → W p l e R s m args below meth c H1 locs (cells + 1) (slots + N) Q (F0 m (pc + 2) ls (.ref q :: rest))) : W p l e R s m args below meth c H locs cells slots Q (F0 m pc ls (.int (nI N) :: rest)) := by
  refine va_newa (atype := .long) (a0 := (N, .inr (.inl (fun _ => 0)))) (N' := N) hx hb (hts _ harr) rfl w.1.1 w.1.2 w.2.1 w.2.2.1 w.2.2.2 (fun cA => rfl) (nI_pos (by omega)) (nI_clamp (by omega)) (by show N * 8 ≤ _; omega) hcells hslots hdg (fun q cA H1 hK hP hD hS => ?_)
  have hc : cA = G.2 1 := z_cA (t0 := 3) (t1 := 1) hK rfl rfl (fun C h => by cases h)
  subst hc
  exact kk q H1 ⟨⟨w.1.1, hP⟩, hD, hS, w.2.2.2⟩
-- contracts
def zPr (G : zG) (av : List Value) (wr : va_W) : Array Value → State → Prop := va_Pc av (fun U => zr G U wr U.heap)
def zPw (G : zG) (av : List Value) (wc : va_W) (sz : Nat) : Array Value → State → Prop := va_Pc av (fun U => U.heap.size = sz ∧ zr G U wc U.heap ∧ va_D (fun _ => True) wc)
def zQ {S : Type} (G : zG) (rv : S → Option Value) (w' : S → va_W) (A : Nat → Prop) (post : S → Prop) : Array Value → State → Outcome → State → Prop := fun _ st oc t => (∃ u : S, oc = .returned (rv u) ∧ post u ∧ va_P G.1 vwCl (w' u) t.heap ∧ va_D A (w' u)) ∧ va_F A st t
theorem zPr_blind {av : List Value} {wr : va_W} : FrameBlind (zPr G av wr) := fun a U g mk q => ⟨q.1, va_K.moved (u := U) (U := U.calling g mk a) (Vm.Alike.refl U.vm) q.2.1, q.2.2⟩
theorem zPw_blind {av : List Value} {wc : va_W} {sz : Nat} : FrameBlind (zPw G av wc sz) := fun a U g mk q => ⟨q.1, q.2.1, ⟨va_K.moved (u := U) (U := U.calling g mk a) (Vm.Alike.refl U.vm) q.2.2.1.1, q.2.2.1.2⟩, q.2.2.2⟩
def zV (own : String) (index : Nat) (y : MethodName) (bytes : ByteArray) (maxL : Nat) (ret : Option FieldType) (n : Nat) : Prop :=
  (Cond.methodLink own index y ∈ zT ∧ Cond.instanceMethod y ∈ zT ∧ Cond.selects y.cls y y ∈ zT ∧ Cond.initialized y.cls ∈ zT ∧ Cond.code y bytes maxL ret ∈ zT) ∧ y.cls ≠ "java/lang/invoke/MethodHandle" ∧ y.cls ≠ "java/lang/invoke/VarHandle" ∧ (parseMethodDescriptor y.desc).map (fun d => d.parameters.length) = some n
theorem zV.good {own : String} {index : Nat} {y : MethodName} {bytes : ByteArray} {maxL n : Nat} {ret : Option FieldType} (h : zV own index y bytes maxL ret n) : GoodIn zT (wsV own index y.cls y (.code y bytes maxL ret :: zT)) := by
  have key : ∀ w ∈ wsV own index y.cls y (.code y bytes maxL ret :: zT), w ∈ zT := by
    intro w hw
    simp only [wsV, List.mem_append, List.mem_cons, List.not_mem_nil, or_false] at hw
    rcases hw with (rfl | rfl | rfl | rfl) | rfl | hw
    · exact h.1.1
    · exact h.1.2.1
    · exact h.1.2.2.1
    · exact h.1.2.2.2.1
    · exact h.1.2.2.2.2
    · exact hw
  exact fun w hw => ⟨key w hw, zT_good w (key w hw)⟩
def zSt (own : String) (index : Nat) (y : MethodName) (bytes : ByteArray) (maxL : Nat) (ret : Option FieldType) (n : Nat) : Prop :=
  (Cond.methodLink own index y ∈ zT ∧ Cond.static y ∈ zT ∧ Cond.initialized y.cls ∈ zT ∧ Cond.code y bytes maxL ret ∈ zT) ∧ y.cls ≠ "java/lang/invoke/MethodHandle" ∧ y.cls ≠ "java/lang/invoke/VarHandle" ∧ (parseMethodDescriptor y.desc).map (fun d => d.parameters.length) = some n
theorem zgood {y : MethodName} {bytes : ByteArray} {maxL : Nat} {ret : Option FieldType} (h : Cond.code y bytes maxL ret ∈ zT) : GoodIn zT (.code y bytes maxL ret :: zT) := by
  intro w hw
  rcases List.mem_cons.mp hw with rfl | hw
  · exact ⟨h, zT_good _ h⟩
  · exact ⟨hw, zT_good _ hw⟩
def zRm (R rm : Room) (maxL : Nat) : Prop := rm.frames + 1 ≤ R.frames ∧ 8 + (maxL + 11) + rm.locals ≤ R.locals
variable {y : MethodName} {bytes : ByteArray} {maxL n index mc ms : Nat} {ret : Option FieldType} {own : String} {b : Nat} {As st0 : List Value} {rm : Room} {wr wc : va_W} {rv : Value}
theorem z_rV (S : CallFix p m c cc nL s args zT own) (hM : Met l y (.code y bytes maxL ret :: zT) rm (zPr G (.ref b :: As) wr) (k2_QcV rv) 0 0 (fun _ => False)) (hy : zV own index y bytes maxL ret n) (hrm : rm.cells = 0 ∧ rm.slots = 0) (hR : zRm R rm maxL) (r : zr G s ws H) (is : List Nat) (hs : is.filterMap (fun i => ws[i]?) = wr) (q0 : Nat) {ci : Nat} {fs : List Value} {q : vw_C} (he : ws[q0]? = some (b, .inr (ci, fs))) (hc : vwCl[ci]? = some q) (hq : q.1 = y.cls) (hn : As.length = n) (hl : ls.size = nL) (hst : st0 = As.reverse ++ .ref b :: rest) (hcat : (rest.map fun v => v.category).sum ≤ 8) (hdg : decode cc pc = .ok (.invokevirtual index, 3)) (hf : cells ≤ R.cells ∧ slots ≤ R.slots)
    (kk : W p l e R s m args below meth c H locs cells slots Q (F0 m (pc + 3) ls (rv :: rest))) : W p l e R s m args below meth c H locs cells slots Q (F0 m pc ls st0) :=
  W.callV (W.runV (C := y.cls) (b := b) (As := As) (rest := rest) S hM (cwV n S.2.2.2.2 hy.good rfl hrm.1 hrm.2 ⟨rfl, hy.2⟩ hR) ⟨zPr_blind, hq ▸ va_recv r.1 r.2 hc he, fun U hU hW => ⟨rfl, va_K.moved hW.alike r.1, by rw [hU]; exact r.2.sub is hs⟩⟩ rfl hn hl hst (lv_room hcat) hdg hf) kk
theorem z_rS (S : CallFix p m c cc nL s args zT own) (hM : Met l y (.code y bytes maxL ret :: zT) rm (zPr G As wr) (k2_QcV rv) 0 0 (fun _ => False)) (hy : zSt own index y bytes maxL ret n) (hrm : rm.cells = 0 ∧ rm.slots = 0) (hR : zRm R rm maxL) (r : zr G s ws H) (is : List Nat) (hs : is.filterMap (fun i => ws[i]?) = wr) (hn : As.length = n) (hl : ls.size = nL) (hst : st0 = As.reverse ++ rest) (hcat : (rest.map fun v => v.category).sum ≤ 8) (hdg : decode cc pc = .ok (.invokestatic index, 3)) (hf : cells ≤ R.cells ∧ slots ≤ R.slots)
    (kk : W p l e R s m args below meth c H locs cells slots Q (F0 m (pc + 3) ls (rv :: rest))) : W p l e R s m args below meth c H locs cells slots Q (F0 m pc ls st0) :=
  W.callV (W.runS (As := As) (rest := rest) S hM ⟨callB_of n S.2.2.2.2 (zgood hy.1.2.2.2) rfl hrm.1 hrm.2 (S.2.2.2.2 _ hy.1.2.2.1) (S.2.2.2.2 _ hy.1.1) hy.2 hR, S.2.2.2.2 _ hy.1.2.1⟩ ⟨zPr_blind, fun U hU hW => ⟨rfl, va_K.moved hW.alike r.1, by rw [hU]; exact r.2.sub is hs⟩⟩ rfl hn hl hst (lv_room hcat) hdg hf) kk
theorem z_callW {S : Type} {rz : S → Option Value} {w' : S → va_W} {post : S → Prop} {av : Array Value} (hr : va_Run p l e R s m args below meth c H locs cells slots mc ms (F0 m pc ls st0) rest (zQ G rz w' (va_A wc H.size) post av) (va_A wc H.size)) (w : zw G A s ws H locs) (isC isR : List Nat) (hC : isC.map (fun i => ws[i]?) = wc.map some) (hR : isR.map (fun i => ws[i]?) = wr.map some) (hn : va_nd isR = true) (hdis : ∀ i ∈ isR, i ∉ isC)
    (kk : ∀ (u : S) (H1 : Heap) (locs1 : List Loc), post u → zw G A s (wr ++ w' u) H1 locs1 → W p l e R s m args below meth c H1 locs1 (cells + mc) (slots + ms) Q (F0 m (pc + 3) ls ((rz u).toList ++ rest))) : W p l e R s m args below meth c H locs cells slots Q (F0 m pc ls st0) := by
  intro T hT X
  obtain ⟨v, st₀, t, T', L, h0, X', hL, e1, e2, ⟨⟨u, hv, hp, hP1, hD1⟩, hz, hk⟩, st⟩ := hr T hT X
  cases hv
  rw [h0] at hz hk
  obtain ⟨⟨hK, hP⟩, hD, hS, hA⟩ := w
  have hF := va_free (wc := wc) hD hS hA isC hC
  have hk' : ∀ q : Nat, q < H.size → ¬ va_A wc H.size q → T'.heap[q]? = H[q]? := fun q h1 h2 => by rw [e1]; exact hk q h1 h2
  have hP1' : va_P G.1 vwCl (w' u) T'.heap := by rw [e1]; exact hP1
  obtain ⟨hP2, hD2⟩ := va_join (wr := wr) (w1 := w' u) hP hD isC isR hC hR hn hdis hk' hF hP1' hD1
  have hz' : H.size ≤ T'.heap.size := by rw [e1]; exact hz
  have hS2 : va_S A s.heap T'.heap (locs ++ L) := ⟨Nat.le_trans hS.1 hz', fun q h1 h2 => by rw [hk' q (Nat.lt_of_lt_of_le h1 hS.1) (fun z => h2 (hF q z))]; exact hS.2.1 q h1 h2, fun q hq => by
      rcases List.mem_append.mp hq with h | h
      · exact hS.2.2 q h
      · exact hF _ (hL q h)⟩
  obtain ⟨t2, a1, b1⟩ := kk u T'.heap (locs ++ L) hp ⟨⟨hK, hP2⟩, hD2, hS2, hA⟩ T' rfl X'
  exact ⟨t2, st t2 a1, b1⟩
theorem z_wV {Sy : Type} {rz : Sy → Option Value} {w' : Sy → va_W} {post : Sy → Prop} (S : CallFix p m c cc nL s args zT own) (hM : Met l y (.code y bytes maxL ret :: zT) rm (zPw G (.ref b :: As) wc H.size) (zQ G rz w' (va_A wc H.size) post) mc ms (va_A wc H.size)) (hy : zV own index y bytes maxL ret n) (hrm : rm.cells = mc ∧ rm.slots = ms) (hR : zRm R rm maxL) (w : zw G A s ws H locs) (isC isR : List Nat) (hC : isC.map (fun i => ws[i]?) = wc.map some) (hRs : isR.map (fun i => ws[i]?) = wr.map some) (hnC : va_nd isC = true) (hnR : va_nd isR = true) (hdis : ∀ i ∈ isR, i ∉ isC) (q0 : Nat) {ci : Nat} {fs : List Value} {q : vw_C} (he : ws[q0]? = some (b, .inr (ci, fs))) (hc : vwCl[ci]? = some q) (hq : q.1 = y.cls) (hn : As.length = n) (hl : ls.size = nL) (hst : st0 = As.reverse ++ .ref b :: rest) (hcat : (rest.map fun v => v.category).sum ≤ 8) (hdg : decode cc pc = .ok (.invokevirtual index, 3)) (hf : cells + mc ≤ R.cells ∧ slots + ms ≤ R.slots)
    (kk : ∀ (u : Sy) (H1 : Heap) (locs1 : List Loc), post u → zw G A s (wr ++ w' u) H1 locs1 → W p l e R s m args below meth c H1 locs1 (cells + mc) (slots + ms) Q (F0 m (pc + 3) ls ((rz u).toList ++ rest))) : W p l e R s m args below meth c H locs cells slots Q (F0 m pc ls st0) :=
  z_callW (va_runV (C := y.cls) (b := b) (As := As) (rest := rest) S hM (cwV n S.2.2.2.2 hy.good rfl hrm.1 hrm.2 ⟨rfl, hy.2⟩ hR) ⟨zPw_blind, hq ▸ va_recv w.1.1 w.1.2 hc he, fun U hU hW => ⟨rfl, by rw [hU], ⟨va_K.moved hW.alike w.1.1, by rw [hU]; exact w.1.2.sub isC (zfm hC)⟩, (w.2.1.sub isC hnC hC).weaken (fun _ _ _ _ => trivial)⟩⟩ rfl hn hl hst (lv_room hcat) hdg hf) w isC isR hC hRs hnR hdis kk
theorem z_wS {Sy : Type} {rz : Sy → Option Value} {w' : Sy → va_W} {post : Sy → Prop} (S : CallFix p m c cc nL s args zT own) (hM : Met l y (.code y bytes maxL ret :: zT) rm (zPw G As wc H.size) (zQ G rz w' (va_A wc H.size) post) mc ms (va_A wc H.size)) (hy : zSt own index y bytes maxL ret n) (hrm : rm.cells = mc ∧ rm.slots = ms) (hR : zRm R rm maxL) (w : zw G A s ws H locs) (isC isR : List Nat) (hC : isC.map (fun i => ws[i]?) = wc.map some) (hRs : isR.map (fun i => ws[i]?) = wr.map some) (hnC : va_nd isC = true) (hnR : va_nd isR = true) (hdis : ∀ i ∈ isR, i ∉ isC) (hn : As.length = n) (hl : ls.size = nL) (hst : st0 = As.reverse ++ rest) (hcat : (rest.map fun v => v.category).sum ≤ 8) (hdg : decode cc pc = .ok (.invokestatic index, 3)) (hf : cells + mc ≤ R.cells ∧ slots + ms ≤ R.slots)
    (kk : ∀ (u : Sy) (H1 : Heap) (locs1 : List Loc), post u → zw G A s (wr ++ w' u) H1 locs1 → W p l e R s m args below meth c H1 locs1 (cells + mc) (slots + ms) Q (F0 m (pc + 3) ls ((rz u).toList ++ rest))) : W p l e R s m args below meth c H locs cells slots Q (F0 m pc ls st0) :=
  z_callW (va_runS (As := As) (rest := rest) S hM ⟨callB_of n S.2.2.2.2 (zgood hy.1.2.2.2) rfl hrm.1 hrm.2 (S.2.2.2.2 _ hy.1.2.2.1) (S.2.2.2.2 _ hy.1.1) hy.2 hR, S.2.2.2.2 _ hy.1.2.1⟩ ⟨zPw_blind, fun U hU hW => ⟨rfl, by rw [hU], ⟨va_K.moved hW.alike w.1.1, by rw [hU]; exact w.1.2.sub isC (zfm hC)⟩, (w.2.1.sub isC hnC hC).weaken (fun _ _ _ _ => trivial)⟩⟩ rfl hn hl hst (lv_room hcat) hdg hf) w isC isR hC hRs hnR hdis kk
/-- a constructor -/
def zN (own : String) (index : Nat) (y : MethodName) (bytes : ByteArray) (maxL n : Nat) : Prop :=
  (Cond.methodLink own index y ∈ zT ∧ Cond.instanceMethod y ∈ zT ∧ Cond.initialized y.cls ∈ zT ∧ Cond.code y bytes maxL none ∈ zT) ∧ y.name = "<init>" ∧ y.cls ≠ "java/lang/invoke/MethodHandle" ∧ y.cls ≠ "java/lang/invoke/VarHandle" ∧ (parseMethodDescriptor y.desc).map (fun d => d.parameters.length) = some n
theorem z_wI {Sy : Type} {rz : Sy → Option Value} {w' : Sy → va_W} {post : Sy → Prop} (S : CallFix p m c cc nL s args zT own) (hM : Met l y (.code y bytes maxL none :: zT) rm (zPw G (.ref b :: As) wc H.size) (zQ G rz w' (va_A wc H.size) post) mc ms (va_A wc H.size)) (hy : zN own index y bytes maxL n) (hrm : rm.cells = mc ∧ rm.slots = ms) (hR : zRm R rm maxL) (w : zw G A s ws H locs) (isC isR : List Nat) (hC : isC.map (fun i => ws[i]?) = wc.map some) (hRs : isR.map (fun i => ws[i]?) = wr.map some) (hnC : va_nd isC = true) (hnR : va_nd isR = true) (hdis : ∀ i ∈ isR, i ∉ isC) (hn : As.length = n) (hl : ls.size = nL) (hst : st0 = As.reverse ++ .ref b :: rest) (hcat : (rest.map fun v => v.category).sum ≤ 8) (hdg : decode cc pc = .ok (.invokespecial index, 3)) (hf : cells + mc ≤ R.cells ∧ slots + ms ≤ R.slots)
    (kk : ∀ (u : Sy) (H1 : Heap) (locs1 : List Loc), post u → zw G A s (wr ++ w' u) H1 locs1 → W p l e R s m args below meth c H1 locs1 (cells + mc) (slots + ms) Q (F0 m (pc + 3) ls ((rz u).toList ++ rest))) : W p l e R s m args below meth c H locs cells slots Q (F0 m pc ls st0) :=
  z_callW (va_runI (b := b) (As := As) (rest := rest) S hM ⟨callB_of n S.2.2.2.2 (zgood hy.1.2.2.2) rfl hrm.1 hrm.2 (S.2.2.2.2 _ hy.1.2.2.1) (S.2.2.2.2 _ hy.1.1) hy.2.2 hR, hy.2.1, S.2.2.2.2 _ hy.1.2.1⟩ ⟨zPw_blind, fun U hU hW => ⟨rfl, by rw [hU], ⟨va_K.moved hW.alike w.1.1, by rw [hU]; exact w.1.2.sub isC (zfm hC)⟩, (w.2.1.sub isC hnC hC).weaken (fun _ _ _ _ => trivial)⟩⟩ rfl hn hl hst (lv_room hcat) hdg hf) w isC isR hC hRs hnR hdis kk
end ZA
/-- the entry of a method that only reads -/
theorem z_metR {l : Launch} {G : zG} {y : MethodName} {bytes : ByteArray} {maxL : Nat} {ret : Option FieldType} {rm : Room} {av : List Value} {wr : va_W} {rv : Value} (hy : plainName y.cls = true) (hlen : (lg_sl av).length ≤ maxL)
    (body : ∀ (p : Program) (e : Env) (s : State) (m : MethodId) (args : Array Value) (below : List Frame) (meth : Method) (c : Code) (ls : Array Slot), CallFix p m c bytes maxL s args zT y.cls → meth.sig.returnType = ret → meth.locks = false → zr G s wr s.heap → lv_has ls maxL (lv_args 0 av) → W p l e rm s m args below meth c s.heap [] 0 0 (MQ below (k2_QcV rv) args s 0 0 (fun _ => False)) (F0 m 0 ls [])) :
    Met l y (.code y bytes maxL ret :: zT) rm (zPr G av wr) (k2_QcV rv) 0 0 (fun _ => False) := by
  refine Met.ofW (cc := bytes) (maxL := maxL) (ret := ret) hy rfl ?_
  intro p e s m args below meth c s₁ B hml hv
  obtain ⟨rfl, hr⟩ := hv
  have hts := atoms_spec (ws := .code y bytes maxL ret :: zT) B.pre
  have hown : s.vm.findClass y.cls = some m.cls := findClass_of_methodNamed B.named
  have hl := lv_entry av (n := maxL) hlen
  rw [lg_entry_eq]
  generalize (lg_sl av ++ List.replicate (maxL - (lg_sl av).length) Slot.unset).toArray = ls at hl ⊢
  exact body p e s m _ below meth c ls ⟨B.exec, B.bytes, hml, hown, fun w h => hts w (List.mem_cons_of_mem _ h)⟩ B.returns B.notSynchronized hr hl
theorem z_metW {l : Launch} {G : zG} {Sy : Type} {rz : Sy → Option Value} {w' : Sy → va_W} {post : Sy → Prop} {y : MethodName} {bytes : ByteArray} {maxL mc ms sz : Nat} {ret : Option FieldType} {rm : Room} {av : List Value} {wc : va_W} (hy : plainName y.cls = true) (hlen : (lg_sl av).length ≤ maxL)
    (body : ∀ (p : Program) (e : Env) (s : State) (m : MethodId) (args : Array Value) (below : List Frame) (meth : Method) (c : Code) (ls : Array Slot) (A : Nat → Prop), CallFix p m c bytes maxL s args zT y.cls → meth.sig.returnType = ret → meth.locks = false → meth.name = y.name → zw G A s wc s.heap [] → lv_has ls maxL (lv_args 0 av) → W p l e rm s m args below meth c s.heap [] 0 0 (MQ below (zQ G rz w' A post) args s mc ms A) (F0 m 0 ls [])) :
    Met l y (.code y bytes maxL ret :: zT) rm (zPw G av wc sz) (zQ G rz w' (va_A wc sz) post) mc ms (va_A wc sz) := by
  refine Met.ofW (cc := bytes) (maxL := maxL) (ret := ret) hy rfl ?_
  intro p e s m args below meth c s₁ B hml hv
  obtain ⟨rfl, hsz, hr, hD0⟩ := hv
  subst hsz
  have hts := atoms_spec (ws := .code y bytes maxL ret :: zT) B.pre
  have hown : s.vm.findClass y.cls = some m.cls := findClass_of_methodNamed B.named
  have hnm : meth.name = y.name := (name_of_methodNamed B.named B.method).1
  have hD := hD0.self (sz := s.heap.size)
  have hl := lv_entry av (n := maxL) hlen
  rw [lg_entry_eq]
  generalize (lg_sl av ++ List.replicate (maxL - (lg_sl av).length) Slot.unset).toArray = ls at hl ⊢
  exact body p e s m _ below meth c ls _ ⟨B.exec, B.bytes, hml, hown, fun w h => hts w (List.mem_cons_of_mem _ h)⟩ B.returns B.notSynchronized hnm ⟨hr, hD, va_S.rf, fun q h => Or.inr h⟩ hl
-- more rows: arrays of counted numbers, longs, sets
theorem upd_nI (V : Nat → Nat) (k x : Nat) : upd (fun j => nI (V j)) k (nI x) = fun j => nI (va_up V k x j) := by
  funext j
  unfold upd va_up
  by_cases h : j = k <;> simp [h]
theorem updL_lN (V : Nat → Nat) (k x : Nat) : vp_updL (fun j => lN (V j)) k (lN x) = fun j => lN (va_up V k x j) := by
  funext j
  unfold vp_updL va_up
  by_cases h : j = k <;> simp [h]
/-- a without b -/
def sdf (a b : Nat) : Nat := a ^^^ (a &&& b)
theorem sdf_bit (a b i : Nat) : (sdf a b).testBit i = (a.testBit i && !b.testBit i) := by
  unfold sdf
  rw [Nat.testBit_xor, Nat.testBit_and]
  cases a.testBit i <;> cases b.testBit i <;> rfl
theorem zb_andC (a b : Nat) : nI a &&& (nI b ^^^ (-1)) = nI (sdf a b) := by
  unfold sdf
  rw [← zb_xor, ← zb_and]
  apply Int32.toBitVec_inj.mp
  have h1 : (-1 : Int32).toBitVec = BitVec.allOnes 32 := by decide
  rw [Int32.toBitVec_and, Int32.toBitVec_xor, Int32.toBitVec_xor, Int32.toBitVec_and, h1]
  generalize (nI a).toBitVec = x
  generalize (nI b).toBitVec = y
  apply BitVec.eq_of_getLsbD_eq
  intro i hi
  simp only [BitVec.getLsbD_and, BitVec.getLsbD_xor, BitVec.getLsbD_allOnes, hi, decide_true]
  cases x.getLsbD i <;> cases y.getLsbD i <;> rfl
section ZM
variable {p : Program} {l : Launch} {e : Env} {R : Room} {s : State} {m : MethodId} {args : Array Value} {below : List Frame} {meth : Method} {c : Code} {H : Heap} {locs : List Loc} {cells slots : Nat} {Q : State → Prop}
variable {cc : ByteArray} {pc nL : Nat} {ls : Array Slot} {rest : List Value} {G : zG} {A : Nat → Prop} {a : Nat} {ws ws' : va_W}
theorem z_andC (hx : p.tables.exec = Jvm.exec) (hb : c.code = cc) {x y : Nat} (hdg : decode cc pc = .ok (.iand, 1)) (k : W p l e R s m args below meth c H locs cells slots Q (F0 m (pc + 1) ls (.int (nI (sdf x y)) :: rest))) : W p l e R s m args below meth c H locs cells slots Q (F0 m pc ls (.int (nI y ^^^ (-1)) :: .int (nI x) :: rest)) :=
  lv_iand hx hb hdg (by rw [zb_andC]; exact k)
theorem z_iastN (hx : p.tables.exec = Jvm.exec) (hb : c.code = cc) (w : zw G A s ws H locs) (q0 : Nat) {n k x : Nat} {V : Nat → Nat} (ha : ws[q0]? = some (a, zI G n (fun j => nI (V j)))) (hk : k < n) (hn : n < 2 ^ 31) (hw : ws.set q0 (a, zI G n (fun j => nI (va_up V k x j))) = ws') (hdg : decode cc pc = .ok (.iastore, 1))
    (kk : ∀ (H1 : Heap) (locs1 : List Loc), zw G A s ws' H1 locs1 → W p l e R s m args below meth c H1 locs1 cells slots Q (F0 m (pc + 1) ls rest)) : W p l e R s m args below meth c H locs cells slots Q (F0 m pc ls (.int (nI x) :: .int (nI k) :: .ref a :: rest)) :=
  z_iast hx hb w q0 ha hk hn (by rw [upd_nI]; exact hw) hdg kk
theorem z_lastN (hx : p.tables.exec = Jvm.exec) (hb : c.code = cc) (w : zw G A s ws H locs) (q0 : Nat) {n k x : Nat} {V : Nat → Nat} (ha : ws[q0]? = some (a, zL G n (fun j => lN (V j)))) (hk : k < n) (hn : n < 2 ^ 31) (hw : ws.set q0 (a, zL G n (fun j => lN (va_up V k x j))) = ws') (hdg : decode cc pc = .ok (.lastore, 1))
    (kk : ∀ (H1 : Heap) (locs1 : List Loc), zw G A s ws' H1 locs1 → W p l e R s m args below meth c H1 locs1 cells slots Q (F0 m (pc + 1) ls rest)) : W p l e R s m args below meth c H locs cells slots Q (F0 m pc ls (.long (lN x) :: .int (nI k) :: .ref a :: rest)) :=
  z_last hx hb w q0 ha hk hn (by rw [updL_lN]; exact hw) hdg kk
theorem z_laddN (hx : p.tables.exec = Jvm.exec) (hb : c.code = cc) {x y : Nat} (hdg : decode cc pc = .ok (.ladd, 1)) (k : W p l e R s m args below meth c H locs cells slots Q (F0 m (pc + 1) ls (.long (lN (x + y)) :: rest))) : W p l e R s m args below meth c H locs cells slots Q (F0 m pc ls (.long (lN y) :: .long (lN x) :: rest)) :=
  lv_ladd hx hb hdg (by rw [lN_add]; exact k)
theorem z_lmulN (hx : p.tables.exec = Jvm.exec) (hb : c.code = cc) {x y : Nat} (hdg : decode cc pc = .ok (.lmul, 1)) (k : W p l e R s m args below meth c H locs cells slots Q (F0 m (pc + 1) ls (.long (lN (x * y)) :: rest))) : W p l e R s m args below meth c H locs cells slots Q (F0 m pc ls (.long (lN y) :: .long (lN x) :: rest)) :=
  lv_lmul hx hb hdg (by rw [lN_mul]; exact k)
theorem zl_ne0 {y : Nat} (h0 : 0 < y) (hy : y < 2 ^ 63) : ¬ lN y = 0 := fun q => by
  have h2 : lN y = lN 0 := q
  have := (pk_lEQ hy (by decide)).mp h2
  omega
theorem z_ldivN (hx : p.tables.exec = Jvm.exec) (hb : c.code = cc) {x y : Nat} (h : x < 2 ^ 63) (h0 : 0 < y) (hy : y < 2 ^ 63) (hdg : decode cc pc = .ok (.ldiv, 1)) (k : W p l e R s m args below meth c H locs cells slots Q (F0 m (pc + 1) ls (.long (lN (x / y)) :: rest))) : W p l e R s m args below meth c H locs cells slots Q (F0 m pc ls (.long (lN y) :: .long (lN x) :: rest)) :=
  lv_ldiv hx hb hdg (zl_ne0 h0 hy) (by rw [pk_lDiv h h0 hy]; exact k)
theorem z_lremN (hx : p.tables.exec = Jvm.exec) (hb : c.code = cc) {x y : Nat} (h : x < 2 ^ 63) (h0 : 0 < y) (hy : y < 2 ^ 63) (hdg : decode cc pc = .ok (.lrem, 1)) (k : W p l e R s m args below meth c H locs cells slots Q (F0 m (pc + 1) ls (.long (lN (x % y)) :: rest))) : W p l e R s m args below meth c H locs cells slots Q (F0 m pc ls (.long (lN y) :: .long (lN x) :: rest)) :=
  lv_lrem hx hb hdg (zl_ne0 h0 hy) (by rw [pk_lRem h h0 hy]; exact k)
end ZM
section ZMet
variable {l : Launch} {G : zG} {y : MethodName} {bytes : ByteArray} {maxL : Nat} {rm : Room} {av : List Value} {wr wc : va_W}
theorem z_metRi {r : Int32} (hy : plainName y.cls = true) (hlen : (lg_sl av).length ≤ maxL)
    (body : ∀ (p : Program) (e : Env) (s : State) (m : MethodId) (args : Array Value) (below : List Frame) (meth : Method) (c : Code) (ls : Array Slot) (Q : State → Prop), CallFix p m c bytes maxL s args zT y.cls → zr G s wr s.heap → lv_has ls maxL (lv_args 0 av) → (∀ (pc : Nat) (ls : Array Slot) (v : Int32), decode bytes pc = .ok (.ireturn, 1) → v = r → W p l e rm s m args below meth c s.heap [] 0 0 Q (F0 m pc ls [.int v])) → W p l e rm s m args below meth c s.heap [] 0 0 Q (F0 m 0 ls [])) :
    Met l y (.code y bytes maxL (some .int) :: zT) rm (zPr G av wr) (k2_QcV (.int r)) 0 0 (fun _ => False) :=
  z_metR hy hlen (fun p e s m args below meth c ls S hr hlocks r hl => body p e s m args below meth c ls _ S r hl (fun pc ls v d hv => by
    subst hv
    exact W.iret S.1 S.2.1 hr (fun t ht _ => ⟨rfl, ht⟩) (fun q h => by cases h) d hlocks))
theorem z_metRl {r : Int64} (hy : plainName y.cls = true) (hlen : (lg_sl av).length ≤ maxL)
    (body : ∀ (p : Program) (e : Env) (s : State) (m : MethodId) (args : Array Value) (below : List Frame) (meth : Method) (c : Code) (ls : Array Slot) (Q : State → Prop), CallFix p m c bytes maxL s args zT y.cls → zr G s wr s.heap → lv_has ls maxL (lv_args 0 av) → (∀ (pc : Nat) (ls : Array Slot) (v : Int64), decode bytes pc = .ok (.lreturn, 1) → v = r → W p l e rm s m args below meth c s.heap [] 0 0 Q (F0 m pc ls [.long v])) → W p l e rm s m args below meth c s.heap [] 0 0 Q (F0 m 0 ls [])) :
    Met l y (.code y bytes maxL (some .long) :: zT) rm (zPr G av wr) (k2_QcV (.long r)) 0 0 (fun _ => False) :=
  z_metR hy hlen (fun p e s m args below meth c ls S hr hlocks r hl => body p e s m args below meth c ls _ S r hl (fun pc ls v d hv => by
    subst hv
    exact W.lret S.1 S.2.1 hr (fun t ht _ => ⟨rfl, ht⟩) (fun q h => by cases h) d hlocks))
theorem bI_nar (P : Prop) : narrow .boolean (.int (bI P)) = .int (bI P) := by
  unfold bI
  by_cases h : P
  · rw [if_pos h]; rfl
  · rw [if_neg h]; rfl
theorem z_metRz {P : Prop} (hy : plainName y.cls = true) (hlen : (lg_sl av).length ≤ maxL)
    (body : ∀ (p : Program) (e : Env) (s : State) (m : MethodId) (args : Array Value) (below : List Frame) (meth : Method) (c : Code) (ls : Array Slot) (Q : State → Prop), CallFix p m c bytes maxL s args zT y.cls → zr G s wr s.heap → lv_has ls maxL (lv_args 0 av) → (∀ (pc : Nat) (ls : Array Slot) (v : Int32), decode bytes pc = .ok (.ireturn, 1) → v = bI P → W p l e rm s m args below meth c s.heap [] 0 0 Q (F0 m pc ls [.int v])) → W p l e rm s m args below meth c s.heap [] 0 0 Q (F0 m 0 ls [])) :
    Met l y (.code y bytes maxL (some .boolean) :: zT) rm (zPr G av wr) (k2_QcV (.int (bI P))) 0 0 (fun _ => False) :=
  z_metR hy hlen (fun p e s m args below meth c ls S hr hlocks r hl => body p e s m args below meth c ls _ S r hl (fun pc ls v d hv => by
    subst hv
    exact W.zret S.1 S.2.1 hr (bI_nar P) (fun t ht _ => ⟨rfl, ht⟩) (fun q h => by cases h) d hlocks))
theorem z_metRq {r : Option Nat} {C : String} (hy : plainName y.cls = true) (hlen : (lg_sl av).length ≤ maxL)
    (body : ∀ (p : Program) (e : Env) (s : State) (m : MethodId) (args : Array Value) (below : List Frame) (meth : Method) (c : Code) (ls : Array Slot) (Q : State → Prop), CallFix p m c bytes maxL s args zT y.cls → zr G s wr s.heap → lv_has ls maxL (lv_args 0 av) → (∀ (pc : Nat) (ls : Array Slot) (v : Option Nat), decode bytes pc = .ok (.areturn, 1) → v = r → W p l e rm s m args below meth c s.heap [] 0 0 Q (F0 m pc ls [va_rf v])) → W p l e rm s m args below meth c s.heap [] 0 0 Q (F0 m 0 ls [])) :
    Met l y (.code y bytes maxL (some (.object C)) :: zT) rm (zPr G av wr) (k2_QcV (va_rf r)) 0 0 (fun _ => False) :=
  z_metR hy hlen (fun p e s m args below meth c ls S hr hlocks r hl => body p e s m args below meth c ls _ S r hl (fun pc ls v d hv => by
    subst hv
    exact W.aret S.1 S.2.1 hr (Or.inl ⟨C, rfl⟩) (va_rf_or v) (fun t ht _ => ⟨rfl, ht⟩) (fun q h => by cases h) d hlocks))
variable {Sy : Type} {rz : Sy → Option Value} {w' : Sy → va_W} {post : Sy → Prop} {mc ms sz : Nat}
theorem z_metWv (hy : plainName y.cls = true) (hlen : (lg_sl av).length ≤ maxL)
    (body : ∀ (p : Program) (e : Env) (s : State) (m : MethodId) (args : Array Value) (below : List Frame) (meth : Method) (c : Code) (ls : Array Slot) (A : Nat → Prop) (Q : State → Prop), CallFix p m c bytes maxL s args zT y.cls → meth.name = y.name → zw G A s wc s.heap [] → lv_has ls maxL (lv_args 0 av) → (∀ (pc : Nat) (ls : Array Slot) (H : Heap) (locs : List Loc) (u : Sy) (ws : va_W), zw G A s ws H locs → ws = w' u → post u → decode bytes pc = .ok (.return_, 1) → rz u = none → W p l e rm s m args below meth c H locs mc ms Q (F0 m pc ls [])) → W p l e rm s m args below meth c s.heap [] 0 0 Q (F0 m 0 ls [])) :
    Met l y (.code y bytes maxL none :: zT) rm (zPw G av wc sz) (zQ G rz w' (va_A wc sz) post) mc ms (va_A wc sz) :=
  z_metW hy hlen (fun p e s m args below meth c ls A S hr hlocks hnm w hl => body p e s m args below meth c ls A _ S hnm w hl (fun pc ls H locs u ws w hw hp d hz => by
    subst hw
    exact W.vret S.1 S.2.1 hr (fun t ht _ => ⟨⟨u, by rw [hz], hp, by rw [ht]; exact w.1.2, w.2.1⟩, w.2.2.1.F ht⟩) w.2.2.1.2.2 d hlocks))
theorem z_metWi (hy : plainName y.cls = true) (hlen : (lg_sl av).length ≤ maxL)
    (body : ∀ (p : Program) (e : Env) (s : State) (m : MethodId) (args : Array Value) (below : List Frame) (meth : Method) (c : Code) (ls : Array Slot) (A : Nat → Prop) (Q : State → Prop), CallFix p m c bytes maxL s args zT y.cls → meth.name = y.name → zw G A s wc s.heap [] → lv_has ls maxL (lv_args 0 av) → (∀ (pc : Nat) (ls : Array Slot) (H : Heap) (locs : List Loc) (u : Sy) (ws : va_W) (v : Int32), zw G A s ws H locs → ws = w' u → post u → decode bytes pc = .ok (.ireturn, 1) → rz u = some (.int v) → W p l e rm s m args below meth c H locs mc ms Q (F0 m pc ls [.int v])) → W p l e rm s m args below meth c s.heap [] 0 0 Q (F0 m 0 ls [])) :
    Met l y (.code y bytes maxL (some .int) :: zT) rm (zPw G av wc sz) (zQ G rz w' (va_A wc sz) post) mc ms (va_A wc sz) :=
  z_metW hy hlen (fun p e s m args below meth c ls A S hr hlocks hnm w hl => body p e s m args below meth c ls A _ S hnm w hl (fun pc ls H locs u ws v w hw hp d hz => by
    subst hw
    exact W.iret S.1 S.2.1 hr (fun t ht _ => ⟨⟨u, by rw [hz], hp, by rw [ht]; exact w.1.2, w.2.1⟩, w.2.2.1.F ht⟩) w.2.2.1.2.2 d hlocks))
theorem z_metWz (hy : plainName y.cls = true) (hlen : (lg_sl av).length ≤ maxL)
    (body : ∀ (p : Program) (e : Env) (s : State) (m : MethodId) (args : Array Value) (below : List Frame) (meth : Method) (c : Code) (ls : Array Slot) (A : Nat → Prop) (Q : State → Prop), CallFix p m c bytes maxL s args zT y.cls → meth.name = y.name → zw G A s wc s.heap [] → lv_has ls maxL (lv_args 0 av) → (∀ (pc : Nat) (ls : Array Slot) (H : Heap) (locs : List Loc) (u : Sy) (ws : va_W) (v : Int32), zw G A s ws H locs → ws = w' u → post u → decode bytes pc = .ok (.ireturn, 1) → rz u = some (.int v) → narrow .boolean (.int v) = .int v → W p l e rm s m args below meth c H locs mc ms Q (F0 m pc ls [.int v])) → W p l e rm s m args below meth c s.heap [] 0 0 Q (F0 m 0 ls [])) :
    Met l y (.code y bytes maxL (some .boolean) :: zT) rm (zPw G av wc sz) (zQ G rz w' (va_A wc sz) post) mc ms (va_A wc sz) :=
  z_metW hy hlen (fun p e s m args below meth c ls A S hr hlocks hnm w hl => body p e s m args below meth c ls A _ S hnm w hl (fun pc ls H locs u ws v w hw hp d hz hnr => by
    subst hw
    exact W.zret S.1 S.2.1 hr hnr (fun t ht _ => ⟨⟨u, by rw [hz], hp, by rw [ht]; exact w.1.2, w.2.1⟩, w.2.2.1.F ht⟩) w.2.2.1.2.2 d hlocks))
theorem z_metWl (hy : plainName y.cls = true) (hlen : (lg_sl av).length ≤ maxL)
    (body : ∀ (p : Program) (e : Env) (s : State) (m : MethodId) (args : Array Value) (below : List Frame) (meth : Method) (c : Code) (ls : Array Slot) (A : Nat → Prop) (Q : State → Prop), CallFix p m c bytes maxL s args zT y.cls → meth.name = y.name → zw G A s wc s.heap [] → lv_has ls maxL (lv_args 0 av) → (∀ (pc : Nat) (ls : Array Slot) (H : Heap) (locs : List Loc) (u : Sy) (ws : va_W) (v : Int64), zw G A s ws H locs → ws = w' u → post u → decode bytes pc = .ok (.lreturn, 1) → rz u = some (.long v) → W p l e rm s m args below meth c H locs mc ms Q (F0 m pc ls [.long v])) → W p l e rm s m args below meth c s.heap [] 0 0 Q (F0 m 0 ls [])) :
    Met l y (.code y bytes maxL (some .long) :: zT) rm (zPw G av wc sz) (zQ G rz w' (va_A wc sz) post) mc ms (va_A wc sz) :=
  z_metW hy hlen (fun p e s m args below meth c ls A S hr hlocks hnm w hl => body p e s m args below meth c ls A _ S hnm w hl (fun pc ls H locs u ws v w hw hp d hz => by
    subst hw
    exact W.lret S.1 S.2.1 hr (fun t ht _ => ⟨⟨u, by rw [hz], hp, by rw [ht]; exact w.1.2, w.2.1⟩, w.2.2.1.F ht⟩) w.2.2.1.2.2 d hlocks))
end ZMet
theorem bI_t {P : Prop} (h : P) : nI 1 = bI P := by
  unfold bI
  rw [if_pos h]
  rfl
theorem bI_f {P : Prop} (h : ¬ P) : nI 0 = bI P := by
  unfold bI
  rw [if_neg h]
  rfl
-- numbers from -1 on: mI k is k - 1
def mI (k : Nat) : Int32 := nI k - 1
theorem mI_s (k : Nat) : mI (k + 1) = nI k := by
  unfold mI
  exact nI_pred k
theorem mI_toInt {k : Nat} (h : k < 2 ^ 30) : (mI k).toInt = (k : Int) - 1 := by
  have h1 : mI k = nI k - nI 1 := rfl
  rw [h1, pk_sub_toInt h (by decide)]
  rfl
theorem mI_le {a b : Nat} (ha : a < 2 ^ 30) (hb : b < 2 ^ 30) : mI a ≤ mI b ↔ a ≤ b := by
  rw [Int32.le_iff_toInt_le, mI_toInt ha, mI_toInt hb]
  omega
theorem mI_lt {a b : Nat} (ha : a < 2 ^ 30) (hb : b < 2 ^ 30) : mI a < mI b ↔ a < b := by
  rw [Int32.lt_iff_toInt_lt, mI_toInt ha, mI_toInt hb]
  omega
theorem mI_eq {a b : Nat} (ha : a < 2 ^ 30) (hb : b < 2 ^ 30) : mI a = mI b ↔ a = b := by
  constructor
  · intro h
    have h2 : (mI a).toInt = (mI b).toInt := by rw [h]
    rw [mI_toInt ha, mI_toInt hb] at h2
    omega
  · intro h
    rw [h]
theorem upd_mI (V : Nat → Nat) (k x : Nat) : upd (fun j => mI (V j)) k (mI x) = fun j => mI (va_up V k x j) := by
  funext j
  unfold upd va_up
  by_cases h : j = k <;> simp [h]
section ZMM
variable {p : Program} {l : Launch} {e : Env} {R : Room} {s : State} {m : MethodId} {args : Array Value} {below : List Frame} {meth : Method} {c : Code} {H : Heap} {locs : List Loc} {cells slots : Nat} {Q : State → Prop}
variable {cc : ByteArray} {pc nL : Nat} {ls : Array Slot} {rest : List Value} {G : zG} {A : Nat → Prop} {a : Nat} {ws ws' : va_W}
theorem z_icmpgeMM (hx : p.tables.exec = Jvm.exec) (hb : c.code = cc) {x y : Nat} {off : Int} {tgt : Nat} (h1 : x < 2 ^ 30) (h2 : y < 2 ^ 30) (hdg : decode cc pc = .ok (.if_icmp .ge off, 3)) (ht : (pc : Int) + off = (tgt : Int))
    (kt : y ≤ x → W p l e R s m args below meth c H locs cells slots Q (F0 m tgt ls rest)) (kf : x < y → W p l e R s m args below meth c H locs cells slots Q (F0 m (pc + 3) ls rest)) : W p l e R s m args below meth c H locs cells slots Q (F0 m pc ls (.int (mI y) :: .int (mI x) :: rest)) :=
  lv_icmp_ge hx hb hdg ht (fun q => kt ((mI_le h2 h1).mp q)) (fun q => kf (Nat.lt_of_not_le (fun z => q ((mI_le h2 h1).mpr z))))
theorem z_icmpgeMN (hx : p.tables.exec = Jvm.exec) (hb : c.code = cc) {x y : Nat} {off : Int} {tgt : Nat} (h1 : x < 2 ^ 30) (h2 : y + 1 < 2 ^ 30) (hdg : decode cc pc = .ok (.if_icmp .ge off, 3)) (ht : (pc : Int) + off = (tgt : Int))
    (kt : y + 1 ≤ x → W p l e R s m args below meth c H locs cells slots Q (F0 m tgt ls rest)) (kf : x < y + 1 → W p l e R s m args below meth c H locs cells slots Q (F0 m (pc + 3) ls rest)) : W p l e R s m args below meth c H locs cells slots Q (F0 m pc ls (.int (nI y) :: .int (mI x) :: rest)) := by
  rw [← mI_s y]
  exact z_icmpgeMM hx hb h1 h2 hdg ht kt kf
theorem z_icmpgeNM (hx : p.tables.exec = Jvm.exec) (hb : c.code = cc) {x y : Nat} {off : Int} {tgt : Nat} (h1 : x + 1 < 2 ^ 30) (h2 : y < 2 ^ 30) (hdg : decode cc pc = .ok (.if_icmp .ge off, 3)) (ht : (pc : Int) + off = (tgt : Int))
    (kt : y ≤ x + 1 → W p l e R s m args below meth c H locs cells slots Q (F0 m tgt ls rest)) (kf : x + 1 < y → W p l e R s m args below meth c H locs cells slots Q (F0 m (pc + 3) ls rest)) : W p l e R s m args below meth c H locs cells slots Q (F0 m pc ls (.int (mI y) :: .int (nI x) :: rest)) := by
  rw [← mI_s x]
  exact z_icmpgeMM hx hb h1 h2 hdg ht kt kf
theorem z_icmpltMM (hx : p.tables.exec = Jvm.exec) (hb : c.code = cc) {x y : Nat} {off : Int} {tgt : Nat} (h1 : x < 2 ^ 30) (h2 : y < 2 ^ 30) (hdg : decode cc pc = .ok (.if_icmp .lt off, 3)) (ht : (pc : Int) + off = (tgt : Int))
    (kt : x < y → W p l e R s m args below meth c H locs cells slots Q (F0 m tgt ls rest)) (kf : y ≤ x → W p l e R s m args below meth c H locs cells slots Q (F0 m (pc + 3) ls rest)) : W p l e R s m args below meth c H locs cells slots Q (F0 m pc ls (.int (mI y) :: .int (mI x) :: rest)) :=
  lv_icmp_lt hx hb hdg ht (fun q => kt ((mI_lt h1 h2).mp q)) (fun q => kf (Nat.le_of_not_lt (fun z => q ((mI_lt h1 h2).mpr z))))
theorem z_icmpltMN (hx : p.tables.exec = Jvm.exec) (hb : c.code = cc) {x y : Nat} {off : Int} {tgt : Nat} (h1 : x < 2 ^ 30) (h2 : y + 1 < 2 ^ 30) (hdg : decode cc pc = .ok (.if_icmp .lt off, 3)) (ht : (pc : Int) + off = (tgt : Int))
    (kt : x < y + 1 → W p l e R s m args below meth c H locs cells slots Q (F0 m tgt ls rest)) (kf : y + 1 ≤ x → W p l e R s m args below meth c H locs cells slots Q (F0 m (pc + 3) ls rest)) : W p l e R s m args below meth c H locs cells slots Q (F0 m pc ls (.int (nI y) :: .int (mI x) :: rest)) := by
  rw [← mI_s y]
  exact z_icmpltMM hx hb h1 h2 hdg ht kt kf
theorem z_icmpltNM (hx : p.tables.exec = Jvm.exec) (hb : c.code = cc) {x y : Nat} {off : Int} {tgt : Nat} (h1 : x + 1 < 2 ^ 30) (h2 : y < 2 ^ 30) (hdg : decode cc pc = .ok (.if_icmp .lt off, 3)) (ht : (pc : Int) + off = (tgt : Int))
    (kt : x + 1 < y → W p l e R s m args below meth c H locs cells slots Q (F0 m tgt ls rest)) (kf : y ≤ x + 1 → W p l e R s m args below meth c H locs cells slots Q (F0 m (pc + 3) ls rest)) : W p l e R s m args below meth c H locs cells slots Q (F0 m pc ls (.int (mI y) :: .int (nI x) :: rest)) := by
  rw [← mI_s x]
  exact z_icmpltMM hx hb h1 h2 hdg ht kt kf
theorem z_icmpleMM (hx : p.tables.exec = Jvm.exec) (hb : c.code = cc) {x y : Nat} {off : Int} {tgt : Nat} (h1 : x < 2 ^ 30) (h2 : y < 2 ^ 30) (hdg : decode cc pc = .ok (.if_icmp .le off, 3)) (ht : (pc : Int) + off = (tgt : Int))
    (kt : x ≤ y → W p l e R s m args below meth c H locs cells slots Q (F0 m tgt ls rest)) (kf : y < x → W p l e R s m args below meth c H locs cells slots Q (F0 m (pc + 3) ls rest)) : W p l e R s m args below meth c H locs cells slots Q (F0 m pc ls (.int (mI y) :: .int (mI x) :: rest)) :=
  lv_icmp_le hx hb hdg ht (fun q => kt ((mI_le h1 h2).mp q)) (fun q => kf (Nat.lt_of_not_le (fun z => q ((mI_le h1 h2).mpr z))))
theorem z_icmpleMN (hx : p.tables.exec = Jvm.exec) (hb : c.code = cc) {x y : Nat} {off : Int} {tgt : Nat} (h1 : x < 2 ^ 30) (h2 : y + 1 < 2 ^ 30) (hdg : decode cc pc = .ok (.if_icmp .le off, 3)) (ht : (pc : Int) + off = (tgt : Int))
    (kt : x ≤ y + 1 → W p l e R s m args below meth c H locs cells slots Q (F0 m tgt ls rest)) (kf : y + 1 < x → W p l e R s m args below meth c H locs cells slots Q (F0 m (pc + 3) ls rest)) : W p l e R s m args below meth c H locs cells slots Q (F0 m pc ls (.int (nI y) :: .int (mI x) :: rest)) := by
  rw [← mI_s y]
  exact z_icmpleMM hx hb h1 h2 hdg ht kt kf
theorem z_icmpleNM (hx : p.tables.exec = Jvm.exec) (hb : c.code = cc) {x y : Nat} {off : Int} {tgt : Nat} (h1 : x + 1 < 2 ^ 30) (h2 : y < 2 ^ 30) (hdg : decode cc pc = .ok (.if_icmp .le off, 3)) (ht : (pc : Int) + off = (tgt : Int))
    (kt : x + 1 ≤ y → W p l e R s m args below meth c H locs cells slots Q (F0 m tgt ls rest)) (kf : y < x + 1 → W p l e R s m args below meth c H locs cells slots Q (F0 m (pc + 3) ls rest)) : W p l e R s m args below meth c H locs cells slots Q (F0 m pc ls (.int (mI y) :: .int (nI x) :: rest)) := by
  rw [← mI_s x]
  exact z_icmpleMM hx hb h1 h2 hdg ht kt kf
theorem z_icmpgtMM (hx : p.tables.exec = Jvm.exec) (hb : c.code = cc) {x y : Nat} {off : Int} {tgt : Nat} (h1 : x < 2 ^ 30) (h2 : y < 2 ^ 30) (hdg : decode cc pc = .ok (.if_icmp .gt off, 3)) (ht : (pc : Int) + off = (tgt : Int))
    (kt : y < x → W p l e R s m args below meth c H locs cells slots Q (F0 m tgt ls rest)) (kf : x ≤ y → W p l e R s m args below meth c H locs cells slots Q (F0 m (pc + 3) ls rest)) : W p l e R s m args below meth c H locs cells slots Q (F0 m pc ls (.int (mI y) :: .int (mI x) :: rest)) :=
  lv_icmp_gt hx hb hdg ht (fun q => kt ((mI_lt h2 h1).mp q)) (fun q => kf (Nat.le_of_not_lt (fun z => q ((mI_lt h2 h1).mpr z))))
theorem z_icmpgtMN (hx : p.tables.exec = Jvm.exec) (hb : c.code = cc) {x y : Nat} {off : Int} {tgt : Nat} (h1 : x < 2 ^ 30) (h2 : y + 1 < 2 ^ 30) (hdg : decode cc pc = .ok (.if_icmp .gt off, 3)) (ht : (pc : Int) + off = (tgt : Int))
    (kt : y + 1 < x → W p l e R s m args below meth c H locs cells slots Q (F0 m tgt ls rest)) (kf : x ≤ y + 1 → W p l e R s m args below meth c H locs cells slots Q (F0 m (pc + 3) ls rest)) : W p l e R s m args below meth c H locs cells slots Q (F0 m pc ls (.int (nI y) :: .int (mI x) :: rest)) := by
  rw [← mI_s y]
  exact z_icmpgtMM hx hb h1 h2 hdg ht kt kf
theorem z_icmpgtNM (hx : p.tables.exec = Jvm.exec) (hb : c.code = cc) {x y : Nat} {off : Int} {tgt : Nat} (h1 : x + 1 < 2 ^ 30) (h2 : y < 2 ^ 30) (hdg : decode cc pc = .ok (.if_icmp .gt off, 3)) (ht : (pc : Int) + off = (tgt : Int))
    (kt : y < x + 1 → W p l e R s m args below meth c H locs cells slots Q (F0 m tgt ls rest)) (kf : x + 1 ≤ y → W p l e R s m args below meth c H locs cells slots Q (F0 m (pc + 3) ls rest)) : W p l e R s m args below meth c H locs cells slots Q (F0 m pc ls (.int (mI y) :: .int (nI x) :: rest)) := by
  rw [← mI_s x]
  exact z_icmpgtMM hx hb h1 h2 hdg ht kt kf
theorem z_icmpeqMM (hx : p.tables.exec = Jvm.exec) (hb : c.code = cc) {x y : Nat} {off : Int} {tgt : Nat} (h1 : x < 2 ^ 30) (h2 : y < 2 ^ 30) (hdg : decode cc pc = .ok (.if_icmp .eq off, 3)) (ht : (pc : Int) + off = (tgt : Int))
    (kt : x = y → W p l e R s m args below meth c H locs cells slots Q (F0 m tgt ls rest)) (kf : x ≠ y → W p l e R s m args below meth c H locs cells slots Q (F0 m (pc + 3) ls rest)) : W p l e R s m args below meth c H locs cells slots Q (F0 m pc ls (.int (mI y) :: .int (mI x) :: rest)) :=
  lv_icmp_eq hx hb hdg ht (fun q => kt ((mI_eq h1 h2).mp q)) (fun q => kf (fun z => q ((mI_eq h1 h2).mpr z)))
theorem z_icmpeqMN (hx : p.tables.exec = Jvm.exec) (hb : c.code = cc) {x y : Nat} {off : Int} {tgt : Nat} (h1 : x < 2 ^ 30) (h2 : y + 1 < 2 ^ 30) (hdg : decode cc pc = .ok (.if_icmp .eq off, 3)) (ht : (pc : Int) + off = (tgt : Int))
    (kt : x = y + 1 → W p l e R s m args below meth c H locs cells slots Q (F0 m tgt ls rest)) (kf : x ≠ y + 1 → W p l e R s m args below meth c H locs cells slots Q (F0 m (pc + 3) ls rest)) : W p l e R s m args below meth c H locs cells slots Q (F0 m pc ls (.int (nI y) :: .int (mI x) :: rest)) := by
  rw [← mI_s y]
  exact z_icmpeqMM hx hb h1 h2 hdg ht kt kf
theorem z_icmpeqNM (hx : p.tables.exec = Jvm.exec) (hb : c.code = cc) {x y : Nat} {off : Int} {tgt : Nat} (h1 : x + 1 < 2 ^ 30) (h2 : y < 2 ^ 30) (hdg : decode cc pc = .ok (.if_icmp .eq off, 3)) (ht : (pc : Int) + off = (tgt : Int))
    (kt : x + 1 = y → W p l e R s m args below meth c H locs cells slots Q (F0 m tgt ls rest)) (kf : x + 1 ≠ y → W p l e R s m args below meth c H locs cells slots Q (F0 m (pc + 3) ls rest)) : W p l e R s m args below meth c H locs cells slots Q (F0 m pc ls (.int (mI y) :: .int (nI x) :: rest)) := by
  rw [← mI_s x]
  exact z_icmpeqMM hx hb h1 h2 hdg ht kt kf
theorem z_icmpneMM (hx : p.tables.exec = Jvm.exec) (hb : c.code = cc) {x y : Nat} {off : Int} {tgt : Nat} (h1 : x < 2 ^ 30) (h2 : y < 2 ^ 30) (hdg : decode cc pc = .ok (.if_icmp .ne off, 3)) (ht : (pc : Int) + off = (tgt : Int))
    (kt : x ≠ y → W p l e R s m args below meth c H locs cells slots Q (F0 m tgt ls rest)) (kf : x = y → W p l e R s m args below meth c H locs cells slots Q (F0 m (pc + 3) ls rest)) : W p l e R s m args below meth c H locs cells slots Q (F0 m pc ls (.int (mI y) :: .int (mI x) :: rest)) :=
  lv_icmp_ne hx hb hdg ht (fun q => kt (fun z => q ((mI_eq h1 h2).mpr z))) (fun q => kf ((mI_eq h1 h2).mp q))
theorem z_icmpneMN (hx : p.tables.exec = Jvm.exec) (hb : c.code = cc) {x y : Nat} {off : Int} {tgt : Nat} (h1 : x < 2 ^ 30) (h2 : y + 1 < 2 ^ 30) (hdg : decode cc pc = .ok (.if_icmp .ne off, 3)) (ht : (pc : Int) + off = (tgt : Int))
    (kt : x ≠ y + 1 → W p l e R s m args below meth c H locs cells slots Q (F0 m tgt ls rest)) (kf : x = y + 1 → W p l e R s m args below meth c H locs cells slots Q (F0 m (pc + 3) ls rest)) : W p l e R s m args below meth c H locs cells slots Q (F0 m pc ls (.int (nI y) :: .int (mI x) :: rest)) := by
  rw [← mI_s y]
  exact z_icmpneMM hx hb h1 h2 hdg ht kt kf
theorem z_icmpneNM (hx : p.tables.exec = Jvm.exec) (hb : c.code = cc) {x y : Nat} {off : Int} {tgt : Nat} (h1 : x + 1 < 2 ^ 30) (h2 : y < 2 ^ 30) (hdg : decode cc pc = .ok (.if_icmp .ne off, 3)) (ht : (pc : Int) + off = (tgt : Int))
    (kt : x + 1 ≠ y → W p l e R s m args below meth c H locs cells slots Q (F0 m tgt ls rest)) (kf : x + 1 = y → W p l e R s m args below meth c H locs cells slots Q (F0 m (pc + 3) ls rest)) : W p l e R s m args below meth c H locs cells slots Q (F0 m pc ls (.int (mI y) :: .int (nI x) :: rest)) := by
  rw [← mI_s x]
  exact z_icmpneMM hx hb h1 h2 hdg ht kt kf
theorem z_iastM (hx : p.tables.exec = Jvm.exec) (hb : c.code = cc) (w : zw G A s ws H locs) (q0 : Nat) {n k x : Nat} {V : Nat → Nat} (ha : ws[q0]? = some (a, zI G n (fun j => mI (V j)))) (hk : k < n) (hn : n < 2 ^ 31) (hw : ws.set q0 (a, zI G n (fun j => mI (va_up V k x j))) = ws') (hdg : decode cc pc = .ok (.iastore, 1))
    (kk : ∀ (H1 : Heap) (locs1 : List Loc), zw G A s ws' H1 locs1 → W p l e R s m args below meth c H1 locs1 cells slots Q (F0 m (pc + 1) ls rest)) : W p l e R s m args below meth c H locs cells slots Q (F0 m pc ls (.int (mI x) :: .int (nI k) :: .ref a :: rest)) :=
  z_iast hx hb w q0 ha hk hn (by rw [upd_mI]; exact hw) hdg kk
theorem z_subM (hx : p.tables.exec = Jvm.exec) (hb : c.code = cc) {x : Nat} (hdg : decode cc pc = .ok (.isub, 1)) (k : W p l e R s m args below meth c H locs cells slots Q (F0 m (pc + 1) ls (.int (mI x) :: rest))) : W p l e R s m args below meth c H locs cells slots Q (F0 m pc ls (.int (nI 1) :: .int (nI x) :: rest)) :=
  lv_isub hx hb hdg k
end ZMM
section ZLC
variable {p : Program} {l : Launch} {e : Env} {R : Room} {s : State} {m : MethodId} {args : Array Value} {below : List Frame} {meth : Method} {c : Code} {H : Heap} {locs : List Loc} {cells slots : Nat} {Q : State → Prop}
variable {cc : ByteArray} {pc nL : Nat} {ls : Array Slot} {rest : List Value}
theorem z_lcgeN (hx : p.tables.exec = Jvm.exec) (hb : c.code = cc) {x y : Nat} {off : Int} {tgt : Nat} (h1 : x < 2 ^ 63) (h2 : y < 2 ^ 63) (hdg : decode cc pc = .ok (.ifCond .ge off, 3)) (ht : (pc : Int) + off = (tgt : Int))
    (kt : y ≤ x → W p l e R s m args below meth c H locs cells slots Q (F0 m tgt ls rest)) (kf : x < y → W p l e R s m args below meth c H locs cells slots Q (F0 m (pc + 3) ls rest)) : W p l e R s m args below meth c H locs cells slots Q (F0 m pc ls (.int (lg_cmp (lN x) (lN y)) :: rest)) :=
  lv_if_ge hx hb hdg ht (fun q => kt (((lg_cmp_ge (lN x) (lN y)).trans (pk_lLE h2 h1)).mp q)) (fun q => kf (Nat.lt_of_not_le (fun z => q (((lg_cmp_ge (lN x) (lN y)).trans (pk_lLE h2 h1)).mpr z))))
theorem z_lcltN (hx : p.tables.exec = Jvm.exec) (hb : c.code = cc) {x y : Nat} {off : Int} {tgt : Nat} (h1 : x < 2 ^ 63) (h2 : y < 2 ^ 63) (hdg : decode cc pc = .ok (.ifCond .lt off, 3)) (ht : (pc : Int) + off = (tgt : Int))
    (kt : x < y → W p l e R s m args below meth c H locs cells slots Q (F0 m tgt ls rest)) (kf : y ≤ x → W p l e R s m args below meth c H locs cells slots Q (F0 m (pc + 3) ls rest)) : W p l e R s m args below meth c H locs cells slots Q (F0 m pc ls (.int (lg_cmp (lN x) (lN y)) :: rest)) :=
  lv_if_lt hx hb hdg ht (fun q => kt (((lg_cmp_lt (lN x) (lN y)).trans (pk_lLT h1 h2)).mp q)) (fun q => kf (Nat.le_of_not_lt (fun z => q (((lg_cmp_lt (lN x) (lN y)).trans (pk_lLT h1 h2)).mpr z))))
theorem z_lcleN (hx : p.tables.exec = Jvm.exec) (hb : c.code = cc) {x y : Nat} {off : Int} {tgt : Nat} (h1 : x < 2 ^ 63) (h2 : y < 2 ^ 63) (hdg : decode cc pc = .ok (.ifCond .le off, 3)) (ht : (pc : Int) + off = (tgt : Int))
    (kt : x ≤ y → W p l e R s m args below meth c H locs cells slots Q (F0 m tgt ls rest)) (kf : y < x → W p l e R s m args below meth c H locs cells slots Q (F0 m (pc + 3) ls rest)) : W p l e R s m args below meth c H locs cells slots Q (F0 m pc ls (.int (lg_cmp (lN x) (lN y)) :: rest)) :=
  lv_if_le hx hb hdg ht (fun q => kt (((lg_cmp_le (lN x) (lN y)).trans (pk_lLE h1 h2)).mp q)) (fun q => kf (Nat.lt_of_not_le (fun z => q (((lg_cmp_le (lN x) (lN y)).trans (pk_lLE h1 h2)).mpr z))))
theorem z_lcgtN (hx : p.tables.exec = Jvm.exec) (hb : c.code = cc) {x y : Nat} {off : Int} {tgt : Nat} (h1 : x < 2 ^ 63) (h2 : y < 2 ^ 63) (hdg : decode cc pc = .ok (.ifCond .gt off, 3)) (ht : (pc : Int) + off = (tgt : Int))
    (kt : y < x → W p l e R s m args below meth c H locs cells slots Q (F0 m tgt ls rest)) (kf : x ≤ y → W p l e R s m args below meth c H locs cells slots Q (F0 m (pc + 3) ls rest)) : W p l e R s m args below meth c H locs cells slots Q (F0 m pc ls (.int (lg_cmp (lN x) (lN y)) :: rest)) :=
  lv_if_gt hx hb hdg ht (fun q => kt (((lg_cmp_gt (lN x) (lN y)).trans (pk_lLT h2 h1)).mp q)) (fun q => kf (Nat.le_of_not_lt (fun z => q (((lg_cmp_gt (lN x) (lN y)).trans (pk_lLT h2 h1)).mpr z))))
theorem z_lceqN (hx : p.tables.exec = Jvm.exec) (hb : c.code = cc) {x y : Nat} {off : Int} {tgt : Nat} (h1 : x < 2 ^ 63) (h2 : y < 2 ^ 63) (hdg : decode cc pc = .ok (.ifCond .eq off, 3)) (ht : (pc : Int) + off = (tgt : Int))
    (kt : x = y → W p l e R s m args below meth c H locs cells slots Q (F0 m tgt ls rest)) (kf : x ≠ y → W p l e R s m args below meth c H locs cells slots Q (F0 m (pc + 3) ls rest)) : W p l e R s m args below meth c H locs cells slots Q (F0 m pc ls (.int (lg_cmp (lN x) (lN y)) :: rest)) :=
  lv_if_eq hx hb hdg ht (fun q => kt (((lg_cmp_eq (lN x) (lN y)).trans (pk_lEQ h1 h2)).mp q)) (fun q => kf (fun z => q (((lg_cmp_eq (lN x) (lN y)).trans (pk_lEQ h1 h2)).mpr z)))
theorem z_lcneN (hx : p.tables.exec = Jvm.exec) (hb : c.code = cc) {x y : Nat} {off : Int} {tgt : Nat} (h1 : x < 2 ^ 63) (h2 : y < 2 ^ 63) (hdg : decode cc pc = .ok (.ifCond .ne off, 3)) (ht : (pc : Int) + off = (tgt : Int))
    (kt : x ≠ y → W p l e R s m args below meth c H locs cells slots Q (F0 m tgt ls rest)) (kf : x = y → W p l e R s m args below meth c H locs cells slots Q (F0 m (pc + 3) ls rest)) : W p l e R s m args below meth c H locs cells slots Q (F0 m pc ls (.int (lg_cmp (lN x) (lN y)) :: rest)) :=
  lv_if_ne hx hb hdg ht (fun q => kt (fun z => q (((lg_cmp_eq (lN x) (lN y)).trans (pk_lEQ h1 h2)).mpr z))) (fun q => kf (((lg_cmp_eq (lN x) (lN y)).trans (pk_lEQ h1 h2)).mp q))
end ZLC
end
section
-- one bit of a number, taken by a shift
def bitN (x k : Nat) : Nat := (x.testBit k).toNat
theorem zb_sl : ∀ n, n < 32 → ((nI n &&& 31).toBitVec.smod 32).toNat = n := by decide +kernel
theorem zb_shr {x k : Nat} (hx : x < 2 ^ 31) (hk : k < 32) : nI x >>> (nI k &&& 31) = nI (x >>> k) := by
  rw [pk_shrN hx _ k (zb_sl k hk), Nat.shiftRight_eq_div_pow]
theorem zb_and1 (x k : Nat) : nI (x >>> k) &&& nI 1 = nI (bitN x k) := by
  rw [zb_and, Nat.and_one_is_mod, Nat.shiftRight_eq_div_pow]
  unfold bitN
  rw [Nat.toNat_testBit]
theorem bitN_le (x k : Nat) : bitN x k ≤ 1 := by
  unfold bitN
  cases x.testBit k <;> decide
theorem bitN_1 {x k : Nat} : bitN x k = 1 ↔ x.testBit k = true := by
  unfold bitN
  cases x.testBit k <;> simp
theorem bitN_0 {x k : Nat} : bitN x k = 0 ↔ x.testBit k = false := by
  unfold bitN
  cases x.testBit k <;> simp
section ZSB
variable {p : Program} {l : Launch} {e : Env} {R : Room} {s : State} {m : MethodId} {args : Array Value} {below : List Frame} {meth : Method} {c : Code} {H : Heap} {locs : List Loc} {cells slots : Nat} {Q : State → Prop}
variable {cc : ByteArray} {pc nL : Nat} {ls : Array Slot} {rest : List Value}
theorem z_shrN (hx : p.tables.exec = Jvm.exec) (hb : c.code = cc) {x y : Nat} (h : x < 2 ^ 31) (h2 : y < 32) (hdg : decode cc pc = .ok (.ishr, 1)) (k : W p l e R s m args below meth c H locs cells slots Q (F0 m (pc + 1) ls (.int (nI (x >>> y)) :: rest))) : W p l e R s m args below meth c H locs cells slots Q (F0 m pc ls (.int (nI y) :: .int (nI x) :: rest)) :=
  lv_ishr hx hb hdg (by rw [zb_shr h h2]; exact k)
theorem z_and1 (hx : p.tables.exec = Jvm.exec) (hb : c.code = cc) {x y : Nat} (hdg : decode cc pc = .ok (.iand, 1)) (k : W p l e R s m args below meth c H locs cells slots Q (F0 m (pc + 1) ls (.int (nI (bitN x y)) :: rest))) : W p l e R s m args below meth c H locs cells slots Q (F0 m pc ls (.int (nI 1) :: .int (nI (x >>> y)) :: rest)) :=
  lv_iand hx hb hdg (by rw [zb_and1]; exact k)
theorem z_icmpneSB (hx : p.tables.exec = Jvm.exec) (hb : c.code = cc) {x y : Nat} {off : Int} {tgt : Nat} (hdg : decode cc pc = .ok (.if_icmp .ne off, 3)) (ht : (pc : Int) + off = (tgt : Int))
    (kt : x.testBit y = false → W p l e R s m args below meth c H locs cells slots Q (F0 m tgt ls rest)) (kf : x.testBit y = true → W p l e R s m args below meth c H locs cells slots Q (F0 m (pc + 3) ls rest)) : W p l e R s m args below meth c H locs cells slots Q (F0 m pc ls (.int (nI 1) :: .int (nI (bitN x y)) :: rest)) :=
  z_icmpne hx hb (Nat.lt_of_le_of_lt (bitN_le x y) (by decide)) (by decide) hdg ht (fun q => kt (by cases h : x.testBit y; rfl; exact absurd (bitN_1.mpr h) q)) (fun q => kf (bitN_1.mp q))
theorem z_icmpeqSB (hx : p.tables.exec = Jvm.exec) (hb : c.code = cc) {x y : Nat} {off : Int} {tgt : Nat} (hdg : decode cc pc = .ok (.if_icmp .eq off, 3)) (ht : (pc : Int) + off = (tgt : Int))
    (kt : x.testBit y = true → W p l e R s m args below meth c H locs cells slots Q (F0 m tgt ls rest)) (kf : x.testBit y = false → W p l e R s m args below meth c H locs cells slots Q (F0 m (pc + 3) ls rest)) : W p l e R s m args below meth c H locs cells slots Q (F0 m pc ls (.int (nI 1) :: .int (nI (bitN x y)) :: rest)) :=
  z_icmpeq hx hb (Nat.lt_of_le_of_lt (bitN_le x y) (by decide)) (by decide) hdg ht (fun q => kt (bitN_1.mp q)) (fun q => kf (by cases h : x.testBit y; rfl; exact absurd (bitN_1.mpr h) q))
theorem z_ifneSB (hx : p.tables.exec = Jvm.exec) (hb : c.code = cc) {x y : Nat} {off : Int} {tgt : Nat} (hdg : decode cc pc = .ok (.ifCond .ne off, 3)) (ht : (pc : Int) + off = (tgt : Int))
    (kt : x.testBit y = true → W p l e R s m args below meth c H locs cells slots Q (F0 m tgt ls rest)) (kf : x.testBit y = false → W p l e R s m args below meth c H locs cells slots Q (F0 m (pc + 3) ls rest)) : W p l e R s m args below meth c H locs cells slots Q (F0 m pc ls (.int (nI (bitN x y)) :: rest)) :=
  z_ifneN hx hb (Nat.lt_of_le_of_lt (bitN_le x y) (by decide)) hdg ht (fun q => kt (by cases h : x.testBit y; exact absurd (bitN_0.mpr h) q; rfl)) (fun q => kf (bitN_0.mp q))
theorem z_ifeqSB (hx : p.tables.exec = Jvm.exec) (hb : c.code = cc) {x y : Nat} {off : Int} {tgt : Nat} (hdg : decode cc pc = .ok (.ifCond .eq off, 3)) (ht : (pc : Int) + off = (tgt : Int))
    (kt : x.testBit y = false → W p l e R s m args below meth c H locs cells slots Q (F0 m tgt ls rest)) (kf : x.testBit y = true → W p l e R s m args below meth c H locs cells slots Q (F0 m (pc + 3) ls rest)) : W p l e R s m args below meth c H locs cells slots Q (F0 m pc ls (.int (nI (bitN x y)) :: rest)) :=
  z_ifeqN hx hb (Nat.lt_of_le_of_lt (bitN_le x y) (by decide)) hdg ht (fun q => kt (bitN_0.mp q)) (fun q => kf (by cases h : x.testBit y; exact absurd (bitN_0.mpr h) q; rfl))
theorem z_lclt (hx : p.tables.exec = Jvm.exec) (hb : c.code = cc) {x y : Int64} {off : Int} {tgt : Nat} (hdg : decode cc pc = .ok (.ifCond .lt off, 3)) (ht : (pc : Int) + off = (tgt : Int))
    (kt : x < y → W p l e R s m args below meth c H locs cells slots Q (F0 m tgt ls rest)) (kf : ¬ x < y → W p l e R s m args below meth c H locs cells slots Q (F0 m (pc + 3) ls rest)) : W p l e R s m args below meth c H locs cells slots Q (F0 m pc ls (.int (lg_cmp x y) :: rest)) :=
  lv_if_lt hx hb hdg ht (fun q => kt ((lg_cmp_lt x y).mp q)) (fun q => kf (fun z => q ((lg_cmp_lt x y).mpr z)))
theorem z_lcgt (hx : p.tables.exec = Jvm.exec) (hb : c.code = cc) {x y : Int64} {off : Int} {tgt : Nat} (hdg : decode cc pc = .ok (.ifCond .gt off, 3)) (ht : (pc : Int) + off = (tgt : Int))
    (kt : y < x → W p l e R s m args below meth c H locs cells slots Q (F0 m tgt ls rest)) (kf : ¬ y < x → W p l e R s m args below meth c H locs cells slots Q (F0 m (pc + 3) ls rest)) : W p l e R s m args below meth c H locs cells slots Q (F0 m pc ls (.int (lg_cmp x y) :: rest)) :=
  lv_if_gt hx hb hdg ht (fun q => kt ((lg_cmp_gt x y).mp q)) (fun q => kf (fun z => q ((lg_cmp_gt x y).mpr z)))
theorem z_lcle (hx : p.tables.exec = Jvm.exec) (hb : c.code = cc) {x y : Int64} {off : Int} {tgt : Nat} (hdg : decode cc pc = .ok (.ifCond .le off, 3)) (ht : (pc : Int) + off = (tgt : Int))
    (kt : x ≤ y → W p l e R s m args below meth c H locs cells slots Q (F0 m tgt ls rest)) (kf : ¬ x ≤ y → W p l e R s m args below meth c H locs cells slots Q (F0 m (pc + 3) ls rest)) : W p l e R s m args below meth c H locs cells slots Q (F0 m pc ls (.int (lg_cmp x y) :: rest)) :=
  lv_if_le hx hb hdg ht (fun q => kt ((lg_cmp_le x y).mp q)) (fun q => kf (fun z => q ((lg_cmp_le x y).mpr z)))
theorem z_lcge (hx : p.tables.exec = Jvm.exec) (hb : c.code = cc) {x y : Int64} {off : Int} {tgt : Nat} (hdg : decode cc pc = .ok (.ifCond .ge off, 3)) (ht : (pc : Int) + off = (tgt : Int))
    (kt : y ≤ x → W p l e R s m args below meth c H locs cells slots Q (F0 m tgt ls rest)) (kf : ¬ y ≤ x → W p l e R s m args below meth c H locs cells slots Q (F0 m (pc + 3) ls rest)) : W p l e R s m args below meth c H locs cells slots Q (F0 m pc ls (.int (lg_cmp x y) :: rest)) :=
  lv_if_ge hx hb hdg ht (fun q => kt ((lg_cmp_ge x y).mp q)) (fun q => kf (fun z => q ((lg_cmp_ge x y).mpr z)))
theorem z_lceq (hx : p.tables.exec = Jvm.exec) (hb : c.code = cc) {x y : Int64} {off : Int} {tgt : Nat} (hdg : decode cc pc = .ok (.ifCond .eq off, 3)) (ht : (pc : Int) + off = (tgt : Int))
    (kt : x = y → W p l e R s m args below meth c H locs cells slots Q (F0 m tgt ls rest)) (kf : ¬ x = y → W p l e R s m args below meth c H locs cells slots Q (F0 m (pc + 3) ls rest)) : W p l e R s m args below meth c H locs cells slots Q (F0 m pc ls (.int (lg_cmp x y) :: rest)) :=
  lv_if_eq hx hb hdg ht (fun q => kt ((lg_cmp_eq x y).mp q)) (fun q => kf (fun z => q ((lg_cmp_eq x y).mpr z)))
theorem z_lcne (hx : p.tables.exec = Jvm.exec) (hb : c.code = cc) {x y : Int64} {off : Int} {tgt : Nat} (hdg : decode cc pc = .ok (.ifCond .ne off, 3)) (ht : (pc : Int) + off = (tgt : Int))
    (kt : ¬ x = y → W p l e R s m args below meth c H locs cells slots Q (F0 m tgt ls rest)) (kf : x = y → W p l e R s m args below meth c H locs cells slots Q (F0 m (pc + 3) ls rest)) : W p l e R s m args below meth c H locs cells slots Q (F0 m pc ls (.int (lg_cmp x y) :: rest)) :=
  lv_if_ne hx hb hdg ht (fun q => kt (fun z => q ((lg_cmp_eq x y).mpr z))) (fun q => kf ((lg_cmp_eq x y).mp q))
end ZSB
end
section
-- LINKS: a row a field, a method, a constant (laid by names.py)
section LK
variable {p : Program} {l : Launch} {e : Env} {R : Room} {s : State} {m : MethodId} {args : Array Value} {below : List Frame} {meth : Method} {c : Code} {H : Heap} {locs : List Loc} {cells slots : Nat} {Q : State → Prop}
variable {cc : ByteArray} {pc nL : Nat} {ls : Array Slot} {rest : List Value} {G : zG} {A : Nat → Prop} {a : Nat} {ws ws' : va_W}
theorem pf_To_10 (S : CallFix p m c cc nL s args zT RTo) (hnm : meth.name = "<init>") (w : zw G A s ws H locs) (q0 : Nat) {fs : List Value} (he : ws[q0]? = some (a, .inr (6, fs))) {v : Value} (hn : narrow (tyTo 0) v = v) (hfit : fits (tyTo 0) v = true) (hl : 0 < fs.length) (hw : ws.set q0 (a, .inr (6, fs.set 0 v)) = ws') (hdg : decode cc pc = .ok (.putfield 10, 3)) (kk : ∀ (H1 : Heap) (locs1 : List Loc), zw G A s ws' H1 locs1 → W p l e R s m args below meth c H1 locs1 cells slots Q (F0 m (pc + 3) ls rest)) : W p l e R s m args below meth c H locs cells slots Q (F0 m pc ls (v :: .ref a :: rest)) := z_putF 0 S (uz inTo) tyTo tyTo_ok nmTo rfl (by decide) rfl (zin (List.mem_of_getElem? (i := 249) (by decide +kernel)) rfl) rfl rfl hnm w q0 he hn hfit hl hw hdg kk
theorem gf_To_10 (S : CallFix p m c cc nL s args zT RTo) (r : zr G s ws H) (q0 : Nat) {fs : List Value} (he : ws[q0]? = some (a, .inr (6, fs))) {v : Value} (hv : fs[0]? = some v) (hdg : decode cc pc = .ok (.getfield 10, 3)) (kk : W p l e R s m args below meth c H locs cells slots Q (F0 m (pc + 3) ls (v :: rest))) : W p l e R s m args below meth c H locs cells slots Q (F0 m pc ls (.ref a :: rest)) := z_get 0 S (uz inTo) rfl (by decide) rfl (zin (List.mem_of_getElem? (i := 249) (by decide +kernel)) rfl) r q0 he hv hdg kk
set_option maxRecDepth 40000 in
theorem mv_To_18 : zN RTo 18 yFs_init cFs_init 2 1 := ⟨⟨(zin (List.mem_of_getElem? (i := 91) (by decide +kernel)) rfl), (zin (List.mem_of_getElem? (i := 92) (by decide +kernel)) rfl), (zin (List.mem_of_getElem? (i := 42) (by decide +kernel)) rfl), (zin (List.mem_of_getElem? (i := 93) rfl) rfl)⟩, rfl, (by decide), (by decide), (by decide +kernel)⟩
theorem pf_To_21 (S : CallFix p m c cc nL s args zT RTo) (hnm : meth.name = "<init>") (w : zw G A s ws H locs) (q0 : Nat) {fs : List Value} (he : ws[q0]? = some (a, .inr (6, fs))) {v : Value} (hn : narrow (tyTo 1) v = v) (hfit : fits (tyTo 1) v = true) (hl : 1 < fs.length) (hw : ws.set q0 (a, .inr (6, fs.set 1 v)) = ws') (hdg : decode cc pc = .ok (.putfield 21, 3)) (kk : ∀ (H1 : Heap) (locs1 : List Loc), zw G A s ws' H1 locs1 → W p l e R s m args below meth c H1 locs1 cells slots Q (F0 m (pc + 3) ls rest)) : W p l e R s m args below meth c H locs cells slots Q (F0 m pc ls (v :: .ref a :: rest)) := z_putF 1 S (uz inTo) tyTo tyTo_ok nmTo rfl (by decide) rfl (zin (List.mem_of_getElem? (i := 250) (by decide +kernel)) rfl) rfl rfl hnm w q0 he hn hfit hl hw hdg kk
set_option maxRecDepth 40000 in
theorem mv_To_27 : zN RTo 27 ySq_init cSq_init 2 1 := ⟨⟨(zin (List.mem_of_getElem? (i := 117) (by decide +kernel)) rfl), (zin (List.mem_of_getElem? (i := 118) (by decide +kernel)) rfl), (zin (List.mem_of_getElem? (i := 43) (by decide +kernel)) rfl), (zin (List.mem_of_getElem? (i := 119) rfl) rfl)⟩, rfl, (by decide), (by decide), (by decide +kernel)⟩
theorem pf_To_28 (S : CallFix p m c cc nL s args zT RTo) (hnm : meth.name = "<init>") (w : zw G A s ws H locs) (q0 : Nat) {fs : List Value} (he : ws[q0]? = some (a, .inr (6, fs))) {v : Value} (hn : narrow (tyTo 2) v = v) (hfit : fits (tyTo 2) v = true) (hl : 2 < fs.length) (hw : ws.set q0 (a, .inr (6, fs.set 2 v)) = ws') (hdg : decode cc pc = .ok (.putfield 28, 3)) (kk : ∀ (H1 : Heap) (locs1 : List Loc), zw G A s ws' H1 locs1 → W p l e R s m args below meth c H1 locs1 cells slots Q (F0 m (pc + 3) ls rest)) : W p l e R s m args below meth c H locs cells slots Q (F0 m pc ls (v :: .ref a :: rest)) := z_putF 2 S (uz inTo) tyTo tyTo_ok nmTo rfl (by decide) rfl (zin (List.mem_of_getElem? (i := 251) (by decide +kernel)) rfl) rfl rfl hnm w q0 he hn hfit hl hw hdg kk
theorem gf_To_21 (S : CallFix p m c cc nL s args zT RTo) (r : zr G s ws H) (q0 : Nat) {fs : List Value} (he : ws[q0]? = some (a, .inr (6, fs))) {v : Value} (hv : fs[1]? = some v) (hdg : decode cc pc = .ok (.getfield 21, 3)) (kk : W p l e R s m args below meth c H locs cells slots Q (F0 m (pc + 3) ls (v :: rest))) : W p l e R s m args below meth c H locs cells slots Q (F0 m pc ls (.ref a :: rest)) := z_get 1 S (uz inTo) rfl (by decide) rfl (zin (List.mem_of_getElem? (i := 250) (by decide +kernel)) rfl) r q0 he hv hdg kk
set_option maxRecDepth 40000 in
theorem mv_To_34 : zN RTo 34 yWe_init cWe_init 3 2 := ⟨⟨(zin (List.mem_of_getElem? (i := 191) (by decide +kernel)) rfl), (zin (List.mem_of_getElem? (i := 192) (by decide +kernel)) rfl), (zin (List.mem_of_getElem? (i := 46) (by decide +kernel)) rfl), (zin (List.mem_of_getElem? (i := 193) rfl) rfl)⟩, rfl, (by decide), (by decide), (by decide +kernel)⟩
theorem pf_To_37 (S : CallFix p m c cc nL s args zT RTo) (hnm : meth.name = "<init>") (w : zw G A s ws H locs) (q0 : Nat) {fs : List Value} (he : ws[q0]? = some (a, .inr (6, fs))) {v : Value} (hn : narrow (tyTo 3) v = v) (hfit : fits (tyTo 3) v = true) (hl : 3 < fs.length) (hw : ws.set q0 (a, .inr (6, fs.set 3 v)) = ws') (hdg : decode cc pc = .ok (.putfield 37, 3)) (kk : ∀ (H1 : Heap) (locs1 : List Loc), zw G A s ws' H1 locs1 → W p l e R s m args below meth c H1 locs1 cells slots Q (F0 m (pc + 3) ls rest)) : W p l e R s m args below meth c H locs cells slots Q (F0 m pc ls (v :: .ref a :: rest)) := z_putF 3 S (uz inTo) tyTo tyTo_ok nmTo rfl (by decide) rfl (zin (List.mem_of_getElem? (i := 252) (by decide +kernel)) rfl) rfl rfl hnm w q0 he hn hfit hl hw hdg kk
theorem kc_To_41 : Cond.constant RTo 41 (nI 65536) ∈ zT := (zin (List.mem_of_getElem? (i := 248) (by decide +kernel)) rfl)
theorem pf_To_42 (S : CallFix p m c cc nL s args zT RTo) (w : zw G A s ws H locs) (q0 : Nat) {fs : List Value} (he : ws[q0]? = some (a, .inr (6, fs))) {v : Value} (hn : narrow (tyTo 4) v = v) (hfit : fits (tyTo 4) v = true) (hl : 4 < fs.length) (hw : ws.set q0 (a, .inr (6, fs.set 4 v)) = ws') (hdg : decode cc pc = .ok (.putfield 42, 3)) (kk : ∀ (H1 : Heap) (locs1 : List Loc), zw G A s ws' H1 locs1 → W p l e R s m args below meth c H1 locs1 cells slots Q (F0 m (pc + 3) ls rest)) : W p l e R s m args below meth c H locs cells slots Q (F0 m pc ls (v :: .ref a :: rest)) := z_put 4 S (uz inTo) tyTo tyTo_ok nmTo rfl (by decide) rfl (zin (List.mem_of_getElem? (i := 253) (by decide +kernel)) rfl) rfl w q0 he hn hfit hl hw hdg kk
theorem gf_To_46 (S : CallFix p m c cc nL s args zT RTo) (r : zr G s ws H) (q0 : Nat) {fs : List Value} (he : ws[q0]? = some (a, .inr (2, fs))) {v : Value} (hv : fs[2]? = some v) (hdg : decode cc pc = .ok (.getfield 46, 3)) (kk : W p l e R s m args below meth c H locs cells slots Q (F0 m (pc + 3) ls (v :: rest))) : W p l e R s m args below meth c H locs cells slots Q (F0 m pc ls (.ref a :: rest)) := z_get 2 S (uz inGr) rfl (by decide) rfl (zin (List.mem_of_getElem? (i := 73) (by decide +kernel)) rfl) r q0 he hv hdg kk
theorem gf_To_49 (S : CallFix p m c cc nL s args zT RTo) (r : zr G s ws H) (q0 : Nat) {fs : List Value} (he : ws[q0]? = some (a, .inr (2, fs))) {v : Value} (hv : fs[3]? = some v) (hdg : decode cc pc = .ok (.getfield 49, 3)) (kk : W p l e R s m args below meth c H locs cells slots Q (F0 m (pc + 3) ls (v :: rest))) : W p l e R s m args below meth c H locs cells slots Q (F0 m pc ls (.ref a :: rest)) := z_get 3 S (uz inGr) rfl (by decide) rfl (zin (List.mem_of_getElem? (i := 77) (by decide +kernel)) rfl) r q0 he hv hdg kk
theorem gf_To_28 (S : CallFix p m c cc nL s args zT RTo) (r : zr G s ws H) (q0 : Nat) {fs : List Value} (he : ws[q0]? = some (a, .inr (6, fs))) {v : Value} (hv : fs[2]? = some v) (hdg : decode cc pc = .ok (.getfield 28, 3)) (kk : W p l e R s m args below meth c H locs cells slots Q (F0 m (pc + 3) ls (v :: rest))) : W p l e R s m args below meth c H locs cells slots Q (F0 m pc ls (.ref a :: rest)) := z_get 2 S (uz inTo) rfl (by decide) rfl (zin (List.mem_of_getElem? (i := 251) (by decide +kernel)) rfl) r q0 he hv hdg kk
set_option maxRecDepth 40000 in
theorem mv_To_52 : zV RTo 52 ySq_forget cSq_forget 1 none 0 := ⟨⟨(zin (List.mem_of_getElem? (i := 269) (by decide +kernel)) rfl), (zin (List.mem_of_getElem? (i := 270) (by decide +kernel)) rfl), (zin (List.mem_of_getElem? (i := 271) (by decide +kernel)) rfl), (zin (List.mem_of_getElem? (i := 43) (by decide +kernel)) rfl), (zin (List.mem_of_getElem? (i := 272) rfl) rfl)⟩, (by decide), (by decide), (by decide +kernel)⟩
theorem gf_To_37 (S : CallFix p m c cc nL s args zT RTo) (r : zr G s ws H) (q0 : Nat) {fs : List Value} (he : ws[q0]? = some (a, .inr (6, fs))) {v : Value} (hv : fs[3]? = some v) (hdg : decode cc pc = .ok (.getfield 37, 3)) (kk : W p l e R s m args below meth c H locs cells slots Q (F0 m (pc + 3) ls (v :: rest))) : W p l e R s m args below meth c H locs cells slots Q (F0 m pc ls (.ref a :: rest)) := z_get 3 S (uz inTo) rfl (by decide) rfl (zin (List.mem_of_getElem? (i := 252) (by decide +kernel)) rfl) r q0 he hv hdg kk
set_option maxRecDepth 40000 in
theorem mv_To_55 : zV RTo 55 yWe_forget cWe_forget 1 none 0 := ⟨⟨(zin (List.mem_of_getElem? (i := 277) (by decide +kernel)) rfl), (zin (List.mem_of_getElem? (i := 278) (by decide +kernel)) rfl), (zin (List.mem_of_getElem? (i := 279) (by decide +kernel)) rfl), (zin (List.mem_of_getElem? (i := 46) (by decide +kernel)) rfl), (zin (List.mem_of_getElem? (i := 280) rfl) rfl)⟩, (by decide), (by decide), (by decide +kernel)⟩
set_option maxRecDepth 40000 in
theorem mv_To_56 : zV RTo 56 yGr_addName cGr_addName 3 (some .int) 1 := ⟨⟨(zin (List.mem_of_getElem? (i := 281) (by decide +kernel)) rfl), (zin (List.mem_of_getElem? (i := 282) (by decide +kernel)) rfl), (zin (List.mem_of_getElem? (i := 283) (by decide +kernel)) rfl), (zin (List.mem_of_getElem? (i := 41) (by decide +kernel)) rfl), (zin (List.mem_of_getElem? (i := 284) rfl) rfl)⟩, (by decide), (by decide), (by decide +kernel)⟩
set_option maxRecDepth 40000 in
theorem mv_To_60 : zV RTo 60 yGr_knowsAll cGr_knowsAll 2 (some .boolean) 1 := ⟨⟨(zin (List.mem_of_getElem? (i := 289) (by decide +kernel)) rfl), (zin (List.mem_of_getElem? (i := 290) (by decide +kernel)) rfl), (zin (List.mem_of_getElem? (i := 291) (by decide +kernel)) rfl), (zin (List.mem_of_getElem? (i := 41) (by decide +kernel)) rfl), (zin (List.mem_of_getElem? (i := 292) rfl) rfl)⟩, (by decide), (by decide), (by decide +kernel)⟩
set_option maxRecDepth 40000 in
theorem mv_To_64 : zSt RTo 64 yJi_bitCount cJi_bitCount 1 (some .int) 1 := ⟨⟨(zin (List.mem_of_getElem? (i := 293) (by decide +kernel)) rfl), (zin (List.mem_of_getElem? (i := 294) (by decide +kernel)) rfl), (zin (List.mem_of_getElem? (i := 48) (by decide +kernel)) rfl), (zin (List.mem_of_getElem? (i := 295) rfl) rfl)⟩, (by decide), (by decide), (by decide +kernel)⟩
theorem gf_To_69 (S : CallFix p m c cc nL s args zT RTo) (r : zr G s ws H) (q0 : Nat) {fs : List Value} (he : ws[q0]? = some (a, .inr (1, fs))) {v : Value} (hv : fs[4]? = some v) (hdg : decode cc pc = .ok (.getfield 69, 3)) (kk : W p l e R s m args below meth c H locs cells slots Q (F0 m (pc + 3) ls (v :: rest))) : W p l e R s m args below meth c H locs cells slots Q (F0 m pc ls (.ref a :: rest)) := z_get 4 S (uz inFs) rfl (by decide) rfl (zin (List.mem_of_getElem? (i := 103) (by decide +kernel)) rfl) r q0 he hv hdg kk
set_option maxRecDepth 40000 in
theorem mv_To_72 : zV RTo 72 yGr_join cGr_join 3 none 1 := ⟨⟨(zin (List.mem_of_getElem? (i := 299) (by decide +kernel)) rfl), (zin (List.mem_of_getElem? (i := 300) (by decide +kernel)) rfl), (zin (List.mem_of_getElem? (i := 301) (by decide +kernel)) rfl), (zin (List.mem_of_getElem? (i := 41) (by decide +kernel)) rfl), (zin (List.mem_of_getElem? (i := 302) rfl) rfl)⟩, (by decide), (by decide), (by decide +kernel)⟩
set_option maxRecDepth 40000 in
theorem mv_To_76 : zV RTo 76 yFs_add cFs_add 5 (some .int) 1 := ⟨⟨(zin (List.mem_of_getElem? (i := 303) (by decide +kernel)) rfl), (zin (List.mem_of_getElem? (i := 304) (by decide +kernel)) rfl), (zin (List.mem_of_getElem? (i := 305) (by decide +kernel)) rfl), (zin (List.mem_of_getElem? (i := 42) (by decide +kernel)) rfl), (zin (List.mem_of_getElem? (i := 306) rfl) rfl)⟩, (by decide), (by decide), (by decide +kernel)⟩
set_option maxRecDepth 40000 in
theorem mv_To_79 : zV RTo 79 yFs_numbered cFs_numbered 2 (some (.object "TableOrders$Factor")) 1 := ⟨⟨(zin (List.mem_of_getElem? (i := 344) (by decide +kernel)) rfl), (zin (List.mem_of_getElem? (i := 345) (by decide +kernel)) rfl), (zin (List.mem_of_getElem? (i := 346) (by decide +kernel)) rfl), (zin (List.mem_of_getElem? (i := 42) (by decide +kernel)) rfl), (zin (List.mem_of_getElem? (i := 347) rfl) rfl)⟩, (by decide), (by decide), (by decide +kernel)⟩
theorem gf_To_83 (S : CallFix p m c cc nL s args zT RTo) (r : zr G s ws H) (q0 : Nat) {fs : List Value} (he : ws[q0]? = some (a, .inr (0, fs))) {v : Value} (hv : fs[2]? = some v) (hdg : decode cc pc = .ok (.getfield 83, 3)) (kk : W p l e R s m args below meth c H locs cells slots Q (F0 m (pc + 3) ls (v :: rest))) : W p l e R s m args below meth c H locs cells slots Q (F0 m pc ls (.ref a :: rest)) := z_get 2 S (uz inFa) rfl (by decide) rfl (zin (List.mem_of_getElem? (i := 320) (by decide +kernel)) rfl) r q0 he hv hdg kk
set_option maxRecDepth 40000 in
theorem mv_To_89 : zV RTo 89 yFa_setEntry cFa_setEntry 4 (some .int) 2 := ⟨⟨(zin (List.mem_of_getElem? (i := 348) (by decide +kernel)) rfl), (zin (List.mem_of_getElem? (i := 349) (by decide +kernel)) rfl), (zin (List.mem_of_getElem? (i := 350) (by decide +kernel)) rfl), (zin (List.mem_of_getElem? (i := 49) (by decide +kernel)) rfl), (zin (List.mem_of_getElem? (i := 351) rfl) rfl)⟩, (by decide), (by decide), (by decide +kernel)⟩
theorem gf_To_93 (S : CallFix p m c cc nL s args zT RTo) (r : zr G s ws H) (q0 : Nat) {fs : List Value} (he : ws[q0]? = some (a, .inr (0, fs))) {v : Value} (hv : fs[5]? = some v) (hdg : decode cc pc = .ok (.getfield 93, 3)) (kk : W p l e R s m args below meth c H locs cells slots Q (F0 m (pc + 3) ls (v :: rest))) : W p l e R s m args below meth c H locs cells slots Q (F0 m pc ls (.ref a :: rest)) := z_get 5 S (uz inFa) rfl (by decide) rfl (zin (List.mem_of_getElem? (i := 326) (by decide +kernel)) rfl) r q0 he hv hdg kk
set_option maxRecDepth 40000 in
theorem mv_To_96 : zV RTo 96 yFs_setCopies cFs_setCopies 4 (some .int) 2 := ⟨⟨(zin (List.mem_of_getElem? (i := 360) (by decide +kernel)) rfl), (zin (List.mem_of_getElem? (i := 361) (by decide +kernel)) rfl), (zin (List.mem_of_getElem? (i := 362) (by decide +kernel)) rfl), (zin (List.mem_of_getElem? (i := 42) (by decide +kernel)) rfl), (zin (List.mem_of_getElem? (i := 363) rfl) rfl)⟩, (by decide), (by decide), (by decide +kernel)⟩
set_option maxRecDepth 40000 in
theorem mv_To_100 : zV RTo 100 yGr_knows cGr_knows 2 (some .boolean) 1 := ⟨⟨(zin (List.mem_of_getElem? (i := 372) (by decide +kernel)) rfl), (zin (List.mem_of_getElem? (i := 373) (by decide +kernel)) rfl), (zin (List.mem_of_getElem? (i := 374) (by decide +kernel)) rfl), (zin (List.mem_of_getElem? (i := 41) (by decide +kernel)) rfl), (zin (List.mem_of_getElem? (i := 375) rfl) rfl)⟩, (by decide), (by decide), (by decide +kernel)⟩
set_option maxRecDepth 40000 in
theorem mv_To_103 : zV RTo 103 yGr_hasValue cGr_hasValue 3 (some .boolean) 2 := ⟨⟨(zin (List.mem_of_getElem? (i := 376) (by decide +kernel)) rfl), (zin (List.mem_of_getElem? (i := 377) (by decide +kernel)) rfl), (zin (List.mem_of_getElem? (i := 378) (by decide +kernel)) rfl), (zin (List.mem_of_getElem? (i := 41) (by decide +kernel)) rfl), (zin (List.mem_of_getElem? (i := 379) rfl) rfl)⟩, (by decide), (by decide), (by decide +kernel)⟩
theorem gf_To_107 (S : CallFix p m c cc nL s args zT RTo) (r : zr G s ws H) (q0 : Nat) {fs : List Value} (he : ws[q0]? = some (a, .inr (5, fs))) {v : Value} (hv : fs[2]? = some v) (hdg : decode cc pc = .ok (.getfield 107, 3)) (kk : W p l e R s m args below meth c H locs cells slots Q (F0 m (pc + 3) ls (v :: rest))) : W p l e R s m args below meth c H locs cells slots Q (F0 m pc ls (.ref a :: rest)) := z_get 2 S (uz inWe) rfl (by decide) rfl (zin (List.mem_of_getElem? (i := 199) (by decide +kernel)) rfl) r q0 he hv hdg kk
theorem gf_To_42 (S : CallFix p m c cc nL s args zT RTo) (r : zr G s ws H) (q0 : Nat) {fs : List Value} (he : ws[q0]? = some (a, .inr (6, fs))) {v : Value} (hv : fs[4]? = some v) (hdg : decode cc pc = .ok (.getfield 42, 3)) (kk : W p l e R s m args below meth c H locs cells slots Q (F0 m (pc + 3) ls (v :: rest))) : W p l e R s m args below meth c H locs cells slots Q (F0 m pc ls (.ref a :: rest)) := z_get 4 S (uz inTo) rfl (by decide) rfl (zin (List.mem_of_getElem? (i := 253) (by decide +kernel)) rfl) r q0 he hv hdg kk
theorem gf_To_110 (S : CallFix p m c cc nL s args zT RTo) (r : zr G s ws H) (q0 : Nat) {fs : List Value} (he : ws[q0]? = some (a, .inr (4, fs))) {v : Value} (hv : fs[2]? = some v) (hdg : decode cc pc = .ok (.getfield 110, 3)) (kk : W p l e R s m args below meth c H locs cells slots Q (F0 m (pc + 3) ls (v :: rest))) : W p l e R s m args below meth c H locs cells slots Q (F0 m pc ls (.ref a :: rest)) := z_get 2 S (uz inSq) rfl (by decide) rfl (zin (List.mem_of_getElem? (i := 150) (by decide +kernel)) rfl) r q0 he hv hdg kk
set_option maxRecDepth 40000 in
theorem mv_To_113 : zV RTo 113 ySq_placesHaveEachOnce cSq_placesHaveEachOnce 3 (some .boolean) 0 := ⟨⟨(zin (List.mem_of_getElem? (i := 392) (by decide +kernel)) rfl), (zin (List.mem_of_getElem? (i := 393) (by decide +kernel)) rfl), (zin (List.mem_of_getElem? (i := 394) (by decide +kernel)) rfl), (zin (List.mem_of_getElem? (i := 43) (by decide +kernel)) rfl), (zin (List.mem_of_getElem? (i := 395) rfl) rfl)⟩, (by decide), (by decide), (by decide +kernel)⟩
set_option maxRecDepth 40000 in
theorem mv_To_117 : zV RTo 117 ySq_arrange cSq_arrange 4 none 1 := ⟨⟨(zin (List.mem_of_getElem? (i := 400) (by decide +kernel)) rfl), (zin (List.mem_of_getElem? (i := 401) (by decide +kernel)) rfl), (zin (List.mem_of_getElem? (i := 402) (by decide +kernel)) rfl), (zin (List.mem_of_getElem? (i := 43) (by decide +kernel)) rfl), (zin (List.mem_of_getElem? (i := 403) rfl) rfl)⟩, (by decide), (by decide), (by decide +kernel)⟩
theorem gf_To_120 (S : CallFix p m c cc nL s args zT RTo) (r : zr G s ws H) (q0 : Nat) {fs : List Value} (he : ws[q0]? = some (a, .inr (4, fs))) {v : Value} (hv : fs[6]? = some v) (hdg : decode cc pc = .ok (.getfield 120, 3)) (kk : W p l e R s m args below meth c H locs cells slots Q (F0 m (pc + 3) ls (v :: rest))) : W p l e R s m args below meth c H locs cells slots Q (F0 m pc ls (.ref a :: rest)) := z_get 6 S (uz inSq) rfl (by decide) rfl (zin (List.mem_of_getElem? (i := 158) (by decide +kernel)) rfl) r q0 he hv hdg kk
set_option maxRecDepth 40000 in
theorem mv_To_123 : zV RTo 123 ySq_refresh cSq_refresh 2 none 0 := ⟨⟨(zin (List.mem_of_getElem? (i := 479) (by decide +kernel)) rfl), (zin (List.mem_of_getElem? (i := 480) (by decide +kernel)) rfl), (zin (List.mem_of_getElem? (i := 481) (by decide +kernel)) rfl), (zin (List.mem_of_getElem? (i := 43) (by decide +kernel)) rfl), (zin (List.mem_of_getElem? (i := 482) rfl) rfl)⟩, (by decide), (by decide), (by decide +kernel)⟩
theorem gf_To_126 (S : CallFix p m c cc nL s args zT RTo) (r : zr G s ws H) (q0 : Nat) {fs : List Value} (he : ws[q0]? = some (a, .inr (4, fs))) {v : Value} (hv : fs[3]? = some v) (hdg : decode cc pc = .ok (.getfield 126, 3)) (kk : W p l e R s m args below meth c H locs cells slots Q (F0 m (pc + 3) ls (v :: rest))) : W p l e R s m args below meth c H locs cells slots Q (F0 m pc ls (.ref a :: rest)) := z_get 3 S (uz inSq) rfl (by decide) rfl (zin (List.mem_of_getElem? (i := 152) (by decide +kernel)) rfl) r q0 he hv hdg kk
theorem gf_To_129 (S : CallFix p m c cc nL s args zT RTo) (r : zr G s ws H) (q0 : Nat) {fs : List Value} (he : ws[q0]? = some (a, .inr (4, fs))) {v : Value} (hv : fs[4]? = some v) (hdg : decode cc pc = .ok (.getfield 129, 3)) (kk : W p l e R s m args below meth c H locs cells slots Q (F0 m (pc + 3) ls (v :: rest))) : W p l e R s m args below meth c H locs cells slots Q (F0 m pc ls (.ref a :: rest)) := z_get 4 S (uz inSq) rfl (by decide) rfl (zin (List.mem_of_getElem? (i := 154) (by decide +kernel)) rfl) r q0 he hv hdg kk
set_option maxRecDepth 40000 in
theorem mv_To_132 : zV RTo 132 ySq_parentOf cSq_parentOf 3 (some .int) 1 := ⟨⟨(zin (List.mem_of_getElem? (i := 483) (by decide +kernel)) rfl), (zin (List.mem_of_getElem? (i := 484) (by decide +kernel)) rfl), (zin (List.mem_of_getElem? (i := 485) (by decide +kernel)) rfl), (zin (List.mem_of_getElem? (i := 43) (by decide +kernel)) rfl), (zin (List.mem_of_getElem? (i := 486) rfl) rfl)⟩, (by decide), (by decide), (by decide +kernel)⟩
set_option maxRecDepth 40000 in
theorem mv_To_135 : zV RTo 135 yGr_cellsOf cGr_cellsOf 4 (some .int) 1 := ⟨⟨(zin (List.mem_of_getElem? (i := 487) (by decide +kernel)) rfl), (zin (List.mem_of_getElem? (i := 414) (by decide +kernel)) rfl), (zin (List.mem_of_getElem? (i := 415) (by decide +kernel)) rfl), (zin (List.mem_of_getElem? (i := 41) (by decide +kernel)) rfl), (zin (List.mem_of_getElem? (i := 416) rfl) rfl)⟩, (by decide), (by decide), (by decide +kernel)⟩
theorem gf_To_138 (S : CallFix p m c cc nL s args zT RTo) (r : zr G s ws H) (q0 : Nat) {fs : List Value} (he : ws[q0]? = some (a, .inr (1, fs))) {v : Value} (hv : fs[3]? = some v) (hdg : decode cc pc = .ok (.getfield 138, 3)) (kk : W p l e R s m args below meth c H locs cells slots Q (F0 m (pc + 3) ls (v :: rest))) : W p l e R s m args below meth c H locs cells slots Q (F0 m pc ls (.ref a :: rest)) := z_get 3 S (uz inFs) rfl (by decide) rfl (zin (List.mem_of_getElem? (i := 101) (by decide +kernel)) rfl) r q0 he hv hdg kk
set_option maxRecDepth 40000 in
theorem mv_To_141 : zV RTo 141 yGr_pairs cGr_pairs 3 (some .int) 0 := ⟨⟨(zin (List.mem_of_getElem? (i := 492) (by decide +kernel)) rfl), (zin (List.mem_of_getElem? (i := 493) (by decide +kernel)) rfl), (zin (List.mem_of_getElem? (i := 494) (by decide +kernel)) rfl), (zin (List.mem_of_getElem? (i := 41) (by decide +kernel)) rfl), (zin (List.mem_of_getElem? (i := 495) rfl) rfl)⟩, (by decide), (by decide), (by decide +kernel)⟩
set_option maxRecDepth 40000 in
theorem mv_To_145 : zV RTo 145 yTo_toldOfOrder cTo_toldOfOrder 2 (some .int) 1 := ⟨⟨(zin (List.mem_of_getElem? (i := 496) (by decide +kernel)) rfl), (zin (List.mem_of_getElem? (i := 498) (by decide +kernel)) rfl), (zin (List.mem_of_getElem? (i := 10) (by decide +kernel)) rfl), (zin (List.mem_of_getElem? (i := 40) (by decide +kernel)) rfl), (zin (List.mem_of_getElem? (i := 499) rfl) rfl)⟩, (by decide), (by decide), (by decide +kernel)⟩
set_option maxRecDepth 40000 in
theorem mv_To_148 : zV RTo 148 yTo_lacksMemory cTo_lacksMemory 1 (some .boolean) 0 := ⟨⟨(zin (List.mem_of_getElem? (i := 504) (by decide +kernel)) rfl), (zin (List.mem_of_getElem? (i := 506) (by decide +kernel)) rfl), (zin (List.mem_of_getElem? (i := 11) (by decide +kernel)) rfl), (zin (List.mem_of_getElem? (i := 40) (by decide +kernel)) rfl), (zin (List.mem_of_getElem? (i := 507) rfl) rfl)⟩, (by decide), (by decide), (by decide +kernel)⟩
theorem kc_To_151 : Cond.constantLong RTo 151 (-4) ∈ zT := (zin (List.mem_of_getElem? (i := 508) (by decide +kernel)) rfl)
set_option maxRecDepth 40000 in
theorem mv_To_153 : zV RTo 153 yWe_refresh cWe_refresh 3 none 0 := ⟨⟨(zin (List.mem_of_getElem? (i := 509) (by decide +kernel)) rfl), (zin (List.mem_of_getElem? (i := 510) (by decide +kernel)) rfl), (zin (List.mem_of_getElem? (i := 511) (by decide +kernel)) rfl), (zin (List.mem_of_getElem? (i := 46) (by decide +kernel)) rfl), (zin (List.mem_of_getElem? (i := 512) rfl) rfl)⟩, (by decide), (by decide), (by decide +kernel)⟩
theorem gf_To_154 (S : CallFix p m c cc nL s args zT RTo) (r : zr G s ws H) (q0 : Nat) {fs : List Value} (he : ws[q0]? = some (a, .inr (5, fs))) {v : Value} (hv : fs[10]? = some v) (hdg : decode cc pc = .ok (.getfield 154, 3)) (kk : W p l e R s m args below meth c H locs cells slots Q (F0 m (pc + 3) ls (v :: rest))) : W p l e R s m args below meth c H locs cells slots Q (F0 m pc ls (.ref a :: rest)) := z_get 10 S (uz inWe) rfl (by decide) rfl (zin (List.mem_of_getElem? (i := 212) (by decide +kernel)) rfl) r q0 he hv hdg kk
theorem kc_To_158 : Cond.constantLong RTo 158 (-1) ∈ zT := (zin (List.mem_of_getElem? (i := 549) (by decide +kernel)) rfl)
theorem kc_To_160 : Cond.constantLong RTo 160 (-2) ∈ zT := (zin (List.mem_of_getElem? (i := 550) (by decide +kernel)) rfl)
theorem kc_To_162 : Cond.constantLong RTo 162 (-3) ∈ zT := (zin (List.mem_of_getElem? (i := 551) (by decide +kernel)) rfl)
set_option maxRecDepth 40000 in
theorem mv_To_164 : zV RTo 164 yWe_gatherWhere cWe_gatherWhere 5 none 2 := ⟨⟨(zin (List.mem_of_getElem? (i := 552) (by decide +kernel)) rfl), (zin (List.mem_of_getElem? (i := 553) (by decide +kernel)) rfl), (zin (List.mem_of_getElem? (i := 554) (by decide +kernel)) rfl), (zin (List.mem_of_getElem? (i := 46) (by decide +kernel)) rfl), (zin (List.mem_of_getElem? (i := 555) rfl) rfl)⟩, (by decide), (by decide), (by decide +kernel)⟩
theorem gf_To_168 (S : CallFix p m c cc nL s args zT RTo) (r : zr G s ws H) (q0 : Nat) {fs : List Value} (he : ws[q0]? = some (a, .inr (5, fs))) {v : Value} (hv : fs[11]? = some v) (hdg : decode cc pc = .ok (.getfield 168, 3)) (kk : W p l e R s m args below meth c H locs cells slots Q (F0 m (pc + 3) ls (v :: rest))) : W p l e R s m args below meth c H locs cells slots Q (F0 m pc ls (.ref a :: rest)) := z_get 11 S (uz inWe) rfl (by decide) rfl (zin (List.mem_of_getElem? (i := 214) (by decide +kernel)) rfl) r q0 he hv hdg kk
set_option maxRecDepth 40000 in
theorem mv_To_171 : zSt RTo 171 yTo_commonDivisor cTo_commonDivisor 11 (some .long) 2 := ⟨⟨(zin (List.mem_of_getElem? (i := 566) (by decide +kernel)) rfl), (zin (List.mem_of_getElem? (i := 567) (by decide +kernel)) rfl), (zin (List.mem_of_getElem? (i := 40) (by decide +kernel)) rfl), (zin (List.mem_of_getElem? (i := 568) rfl) rfl)⟩, (by decide), (by decide), (by decide +kernel)⟩
theorem gf_To_175 (S : CallFix p m c cc nL s args zT RTo) (r : zr G s ws H) (q0 : Nat) {fs : List Value} (he : ws[q0]? = some (a, .inr (5, fs))) {v : Value} (hv : fs[8]? = some v) (hdg : decode cc pc = .ok (.getfield 175, 3)) (kk : W p l e R s m args below meth c H locs cells slots Q (F0 m (pc + 3) ls (v :: rest))) : W p l e R s m args below meth c H locs cells slots Q (F0 m pc ls (.ref a :: rest)) := z_get 8 S (uz inWe) rfl (by decide) rfl (zin (List.mem_of_getElem? (i := 208) (by decide +kernel)) rfl) r q0 he hv hdg kk
theorem gf_To_178 (S : CallFix p m c cc nL s args zT RTo) (r : zr G s ws H) (q0 : Nat) {fs : List Value} (he : ws[q0]? = some (a, .inr (5, fs))) {v : Value} (hv : fs[6]? = some v) (hdg : decode cc pc = .ok (.getfield 178, 3)) (kk : W p l e R s m args below meth c H locs cells slots Q (F0 m (pc + 3) ls (v :: rest))) : W p l e R s m args below meth c H locs cells slots Q (F0 m pc ls (.ref a :: rest)) := z_get 6 S (uz inWe) rfl (by decide) rfl (zin (List.mem_of_getElem? (i := 204) (by decide +kernel)) rfl) r q0 he hv hdg kk
theorem gf_To_182 (S : CallFix p m c cc nL s args zT RTo) (r : zr G s ws H) (q0 : Nat) {fs : List Value} (he : ws[q0]? = some (a, .inr (5, fs))) {v : Value} (hv : fs[7]? = some v) (hdg : decode cc pc = .ok (.getfield 182, 3)) (kk : W p l e R s m args below meth c H locs cells slots Q (F0 m (pc + 3) ls (v :: rest))) : W p l e R s m args below meth c H locs cells slots Q (F0 m pc ls (.ref a :: rest)) := z_get 7 S (uz inWe) rfl (by decide) rfl (zin (List.mem_of_getElem? (i := 206) (by decide +kernel)) rfl) r q0 he hv hdg kk
set_option maxRecDepth 40000 in
theorem mv_To_185 : zV RTo 185 yGr_valueIn cGr_valueIn 5 (some .int) 2 := ⟨⟨(zin (List.mem_of_getElem? (i := 577) (by decide +kernel)) rfl), (zin (List.mem_of_getElem? (i := 578) (by decide +kernel)) rfl), (zin (List.mem_of_getElem? (i := 579) (by decide +kernel)) rfl), (zin (List.mem_of_getElem? (i := 41) (by decide +kernel)) rfl), (zin (List.mem_of_getElem? (i := 580) rfl) rfl)⟩, (by decide), (by decide), (by decide +kernel)⟩
theorem gf_To_188 (S : CallFix p m c cc nL s args zT RTo) (r : zr G s ws H) (q0 : Nat) {fs : List Value} (he : ws[q0]? = some (a, .inr (5, fs))) {v : Value} (hv : fs[9]? = some v) (hdg : decode cc pc = .ok (.getfield 188, 3)) (kk : W p l e R s m args below meth c H locs cells slots Q (F0 m (pc + 3) ls (v :: rest))) : W p l e R s m args below meth c H locs cells slots Q (F0 m pc ls (.ref a :: rest)) := z_get 9 S (uz inWe) rfl (by decide) rfl (zin (List.mem_of_getElem? (i := 210) (by decide +kernel)) rfl) r q0 he hv hdg kk
theorem gf_To_191 (S : CallFix p m c cc nL s args zT RTo) (r : zr G s ws H) (q0 : Nat) {fs : List Value} (he : ws[q0]? = some (a, .inr (5, fs))) {v : Value} (hv : fs[12]? = some v) (hdg : decode cc pc = .ok (.getfield 191, 3)) (kk : W p l e R s m args below meth c H locs cells slots Q (F0 m (pc + 3) ls (v :: rest))) : W p l e R s m args below meth c H locs cells slots Q (F0 m pc ls (.ref a :: rest)) := z_get 12 S (uz inWe) rfl (by decide) rfl (zin (List.mem_of_getElem? (i := 216) (by decide +kernel)) rfl) r q0 he hv hdg kk
set_option maxRecDepth 40000 in
theorem mv_To_194 : zV RTo 194 yWe_stateAbove cWe_stateAbove 6 (some .int) 1 := ⟨⟨(zin (List.mem_of_getElem? (i := 599) (by decide +kernel)) rfl), (zin (List.mem_of_getElem? (i := 600) (by decide +kernel)) rfl), (zin (List.mem_of_getElem? (i := 601) (by decide +kernel)) rfl), (zin (List.mem_of_getElem? (i := 46) (by decide +kernel)) rfl), (zin (List.mem_of_getElem? (i := 602) rfl) rfl)⟩, (by decide), (by decide), (by decide +kernel)⟩
set_option maxRecDepth 40000 in
theorem mv_To_198 : zV RTo 198 yGr_reached cGr_reached 8 (some .int) 2 := ⟨⟨(zin (List.mem_of_getElem? (i := 607) (by decide +kernel)) rfl), (zin (List.mem_of_getElem? (i := 426) (by decide +kernel)) rfl), (zin (List.mem_of_getElem? (i := 427) (by decide +kernel)) rfl), (zin (List.mem_of_getElem? (i := 41) (by decide +kernel)) rfl), (zin (List.mem_of_getElem? (i := 428) rfl) rfl)⟩, (by decide), (by decide), (by decide +kernel)⟩
set_option maxRecDepth 40000 in
theorem mv_To_201 : zV RTo 201 yWe_weightOf cWe_weightOf 4 (some .long) 1 := ⟨⟨(zin (List.mem_of_getElem? (i := 612) (by decide +kernel)) rfl), (zin (List.mem_of_getElem? (i := 613) (by decide +kernel)) rfl), (zin (List.mem_of_getElem? (i := 614) (by decide +kernel)) rfl), (zin (List.mem_of_getElem? (i := 46) (by decide +kernel)) rfl), (zin (List.mem_of_getElem? (i := 615) rfl) rfl)⟩, (by decide), (by decide), (by decide +kernel)⟩
theorem gf_To_205 (S : CallFix p m c cc nL s args zT RTo) (r : zr G s ws H) (q0 : Nat) {fs : List Value} (he : ws[q0]? = some (a, .inr (4, fs))) {v : Value} (hv : fs[5]? = some v) (hdg : decode cc pc = .ok (.getfield 205, 3)) (kk : W p l e R s m args below meth c H locs cells slots Q (F0 m (pc + 3) ls (v :: rest))) : W p l e R s m args below meth c H locs cells slots Q (F0 m pc ls (.ref a :: rest)) := z_get 5 S (uz inSq) rfl (by decide) rfl (zin (List.mem_of_getElem? (i := 156) (by decide +kernel)) rfl) r q0 he hv hdg kk
theorem gf_To_208 (S : CallFix p m c cc nL s args zT RTo) (r : zr G s ws H) (q0 : Nat) {fs : List Value} (he : ws[q0]? = some (a, .inr (4, fs))) {v : Value} (hv : fs[7]? = some v) (hdg : decode cc pc = .ok (.getfield 208, 3)) (kk : W p l e R s m args below meth c H locs cells slots Q (F0 m (pc + 3) ls (v :: rest))) : W p l e R s m args below meth c H locs cells slots Q (F0 m pc ls (.ref a :: rest)) := z_get 7 S (uz inSq) rfl (by decide) rfl (zin (List.mem_of_getElem? (i := 160) (by decide +kernel)) rfl) r q0 he hv hdg kk
theorem gf_To_211 (S : CallFix p m c cc nL s args zT RTo) (r : zr G s ws H) (q0 : Nat) {fs : List Value} (he : ws[q0]? = some (a, .inr (4, fs))) {v : Value} (hv : fs[8]? = some v) (hdg : decode cc pc = .ok (.getfield 211, 3)) (kk : W p l e R s m args below meth c H locs cells slots Q (F0 m (pc + 3) ls (v :: rest))) : W p l e R s m args below meth c H locs cells slots Q (F0 m pc ls (.ref a :: rest)) := z_get 8 S (uz inSq) rfl (by decide) rfl (zin (List.mem_of_getElem? (i := 162) (by decide +kernel)) rfl) r q0 he hv hdg kk
theorem gf_To_214 (S : CallFix p m c cc nL s args zT RTo) (r : zr G s ws H) (q0 : Nat) {fs : List Value} (he : ws[q0]? = some (a, .inr (4, fs))) {v : Value} (hv : fs[9]? = some v) (hdg : decode cc pc = .ok (.getfield 214, 3)) (kk : W p l e R s m args below meth c H locs cells slots Q (F0 m (pc + 3) ls (v :: rest))) : W p l e R s m args below meth c H locs cells slots Q (F0 m pc ls (.ref a :: rest)) := z_get 9 S (uz inSq) rfl (by decide) rfl (zin (List.mem_of_getElem? (i := 164) (by decide +kernel)) rfl) r q0 he hv hdg kk
theorem pf_Mo_7 (S : CallFix p m c cc nL s args zT RMo) (hnm : meth.name = "<init>") (w : zw G A s ws H locs) (q0 : Nat) {fs : List Value} (he : ws[q0]? = some (a, .inr (7, fs))) {v : Value} (hn : narrow (tyMo 1) v = v) (hfit : fits (tyMo 1) v = true) (hl : 1 < fs.length) (hw : ws.set q0 (a, .inr (7, fs.set 1 v)) = ws') (hdg : decode cc pc = .ok (.putfield 7, 3)) (kk : ∀ (H1 : Heap) (locs1 : List Loc), zw G A s ws' H1 locs1 → W p l e R s m args below meth c H1 locs1 cells slots Q (F0 m (pc + 3) ls rest)) : W p l e R s m args below meth c H locs cells slots Q (F0 m pc ls (v :: .ref a :: rest)) := z_putF 1 S (uz inMo) tyMo tyMo_ok nmMo rfl (by decide) rfl (zin (List.mem_of_getElem? (i := 634) (by decide +kernel)) rfl) rfl rfl hnm w q0 he hn hfit hl hw hdg kk
theorem pf_Mo_13 (S : CallFix p m c cc nL s args zT RMo) (hnm : meth.name = "<init>") (w : zw G A s ws H locs) (q0 : Nat) {fs : List Value} (he : ws[q0]? = some (a, .inr (7, fs))) {v : Value} (hn : narrow (tyMo 2) v = v) (hfit : fits (tyMo 2) v = true) (hl : 2 < fs.length) (hw : ws.set q0 (a, .inr (7, fs.set 2 v)) = ws') (hdg : decode cc pc = .ok (.putfield 13, 3)) (kk : ∀ (H1 : Heap) (locs1 : List Loc), zw G A s ws' H1 locs1 → W p l e R s m args below meth c H1 locs1 cells slots Q (F0 m (pc + 3) ls rest)) : W p l e R s m args below meth c H locs cells slots Q (F0 m pc ls (v :: .ref a :: rest)) := z_putF 2 S (uz inMo) tyMo tyMo_ok nmMo rfl (by decide) rfl (zin (List.mem_of_getElem? (i := 635) (by decide +kernel)) rfl) rfl rfl hnm w q0 he hn hfit hl hw hdg kk
theorem pf_Mo_16 (S : CallFix p m c cc nL s args zT RMo) (hnm : meth.name = "<init>") (w : zw G A s ws H locs) (q0 : Nat) {fs : List Value} (he : ws[q0]? = some (a, .inr (7, fs))) {v : Value} (hn : narrow (tyMo 3) v = v) (hfit : fits (tyMo 3) v = true) (hl : 3 < fs.length) (hw : ws.set q0 (a, .inr (7, fs.set 3 v)) = ws') (hdg : decode cc pc = .ok (.putfield 16, 3)) (kk : ∀ (H1 : Heap) (locs1 : List Loc), zw G A s ws' H1 locs1 → W p l e R s m args below meth c H1 locs1 cells slots Q (F0 m (pc + 3) ls rest)) : W p l e R s m args below meth c H locs cells slots Q (F0 m pc ls (v :: .ref a :: rest)) := z_putF 3 S (uz inMo) tyMo tyMo_ok nmMo rfl (by decide) rfl (zin (List.mem_of_getElem? (i := 636) (by decide +kernel)) rfl) rfl rfl hnm w q0 he hn hfit hl hw hdg kk
theorem pf_Mo_19 (S : CallFix p m c cc nL s args zT RMo) (hnm : meth.name = "<init>") (w : zw G A s ws H locs) (q0 : Nat) {fs : List Value} (he : ws[q0]? = some (a, .inr (7, fs))) {v : Value} (hn : narrow (tyMo 6) v = v) (hfit : fits (tyMo 6) v = true) (hl : 6 < fs.length) (hw : ws.set q0 (a, .inr (7, fs.set 6 v)) = ws') (hdg : decode cc pc = .ok (.putfield 19, 3)) (kk : ∀ (H1 : Heap) (locs1 : List Loc), zw G A s ws' H1 locs1 → W p l e R s m args below meth c H1 locs1 cells slots Q (F0 m (pc + 3) ls rest)) : W p l e R s m args below meth c H locs cells slots Q (F0 m pc ls (v :: .ref a :: rest)) := z_putF 6 S (uz inMo) tyMo tyMo_ok nmMo rfl (by decide) rfl (zin (List.mem_of_getElem? (i := 639) (by decide +kernel)) rfl) rfl rfl hnm w q0 he hn hfit hl hw hdg kk
theorem pf_Mo_22 (S : CallFix p m c cc nL s args zT RMo) (hnm : meth.name = "<init>") (w : zw G A s ws H locs) (q0 : Nat) {fs : List Value} (he : ws[q0]? = some (a, .inr (7, fs))) {v : Value} (hn : narrow (tyMo 7) v = v) (hfit : fits (tyMo 7) v = true) (hl : 7 < fs.length) (hw : ws.set q0 (a, .inr (7, fs.set 7 v)) = ws') (hdg : decode cc pc = .ok (.putfield 22, 3)) (kk : ∀ (H1 : Heap) (locs1 : List Loc), zw G A s ws' H1 locs1 → W p l e R s m args below meth c H1 locs1 cells slots Q (F0 m (pc + 3) ls rest)) : W p l e R s m args below meth c H locs cells slots Q (F0 m pc ls (v :: .ref a :: rest)) := z_putF 7 S (uz inMo) tyMo tyMo_ok nmMo rfl (by decide) rfl (zin (List.mem_of_getElem? (i := 640) (by decide +kernel)) rfl) rfl rfl hnm w q0 he hn hfit hl hw hdg kk
theorem pf_Mo_25 (S : CallFix p m c cc nL s args zT RMo) (hnm : meth.name = "<init>") (w : zw G A s ws H locs) (q0 : Nat) {fs : List Value} (he : ws[q0]? = some (a, .inr (7, fs))) {v : Value} (hn : narrow (tyMo 8) v = v) (hfit : fits (tyMo 8) v = true) (hl : 8 < fs.length) (hw : ws.set q0 (a, .inr (7, fs.set 8 v)) = ws') (hdg : decode cc pc = .ok (.putfield 25, 3)) (kk : ∀ (H1 : Heap) (locs1 : List Loc), zw G A s ws' H1 locs1 → W p l e R s m args below meth c H1 locs1 cells slots Q (F0 m (pc + 3) ls rest)) : W p l e R s m args below meth c H locs cells slots Q (F0 m pc ls (v :: .ref a :: rest)) := z_putF 8 S (uz inMo) tyMo tyMo_ok nmMo rfl (by decide) rfl (zin (List.mem_of_getElem? (i := 641) (by decide +kernel)) rfl) rfl rfl hnm w q0 he hn hfit hl hw hdg kk
theorem pf_Mo_28 (S : CallFix p m c cc nL s args zT RMo) (hnm : meth.name = "<init>") (w : zw G A s ws H locs) (q0 : Nat) {fs : List Value} (he : ws[q0]? = some (a, .inr (7, fs))) {v : Value} (hn : narrow (tyMo 12) v = v) (hfit : fits (tyMo 12) v = true) (hl : 12 < fs.length) (hw : ws.set q0 (a, .inr (7, fs.set 12 v)) = ws') (hdg : decode cc pc = .ok (.putfield 28, 3)) (kk : ∀ (H1 : Heap) (locs1 : List Loc), zw G A s ws' H1 locs1 → W p l e R s m args below meth c H1 locs1 cells slots Q (F0 m (pc + 3) ls rest)) : W p l e R s m args below meth c H locs cells slots Q (F0 m pc ls (v :: .ref a :: rest)) := z_putF 12 S (uz inMo) tyMo tyMo_ok nmMo rfl (by decide) rfl (zin (List.mem_of_getElem? (i := 645) (by decide +kernel)) rfl) rfl rfl hnm w q0 he hn hfit hl hw hdg kk
theorem pf_Mo_31 (S : CallFix p m c cc nL s args zT RMo) (hnm : meth.name = "<init>") (w : zw G A s ws H locs) (q0 : Nat) {fs : List Value} (he : ws[q0]? = some (a, .inr (7, fs))) {v : Value} (hn : narrow (tyMo 13) v = v) (hfit : fits (tyMo 13) v = true) (hl : 13 < fs.length) (hw : ws.set q0 (a, .inr (7, fs.set 13 v)) = ws') (hdg : decode cc pc = .ok (.putfield 31, 3)) (kk : ∀ (H1 : Heap) (locs1 : List Loc), zw G A s ws' H1 locs1 → W p l e R s m args below meth c H1 locs1 cells slots Q (F0 m (pc + 3) ls rest)) : W p l e R s m args below meth c H locs cells slots Q (F0 m pc ls (v :: .ref a :: rest)) := z_putF 13 S (uz inMo) tyMo tyMo_ok nmMo rfl (by decide) rfl (zin (List.mem_of_getElem? (i := 646) (by decide +kernel)) rfl) rfl rfl hnm w q0 he hn hfit hl hw hdg kk
theorem pf_Mo_34 (S : CallFix p m c cc nL s args zT RMo) (hnm : meth.name = "<init>") (w : zw G A s ws H locs) (q0 : Nat) {fs : List Value} (he : ws[q0]? = some (a, .inr (7, fs))) {v : Value} (hn : narrow (tyMo 15) v = v) (hfit : fits (tyMo 15) v = true) (hl : 15 < fs.length) (hw : ws.set q0 (a, .inr (7, fs.set 15 v)) = ws') (hdg : decode cc pc = .ok (.putfield 34, 3)) (kk : ∀ (H1 : Heap) (locs1 : List Loc), zw G A s ws' H1 locs1 → W p l e R s m args below meth c H1 locs1 cells slots Q (F0 m (pc + 3) ls rest)) : W p l e R s m args below meth c H locs cells slots Q (F0 m pc ls (v :: .ref a :: rest)) := z_putF 15 S (uz inMo) tyMo tyMo_ok nmMo rfl (by decide) rfl (zin (List.mem_of_getElem? (i := 648) (by decide +kernel)) rfl) rfl rfl hnm w q0 he hn hfit hl hw hdg kk
theorem pf_Mo_37 (S : CallFix p m c cc nL s args zT RMo) (hnm : meth.name = "<init>") (w : zw G A s ws H locs) (q0 : Nat) {fs : List Value} (he : ws[q0]? = some (a, .inr (7, fs))) {v : Value} (hn : narrow (tyMo 16) v = v) (hfit : fits (tyMo 16) v = true) (hl : 16 < fs.length) (hw : ws.set q0 (a, .inr (7, fs.set 16 v)) = ws') (hdg : decode cc pc = .ok (.putfield 37, 3)) (kk : ∀ (H1 : Heap) (locs1 : List Loc), zw G A s ws' H1 locs1 → W p l e R s m args below meth c H1 locs1 cells slots Q (F0 m (pc + 3) ls rest)) : W p l e R s m args below meth c H locs cells slots Q (F0 m pc ls (v :: .ref a :: rest)) := z_putF 16 S (uz inMo) tyMo tyMo_ok nmMo rfl (by decide) rfl (zin (List.mem_of_getElem? (i := 649) (by decide +kernel)) rfl) rfl rfl hnm w q0 he hn hfit hl hw hdg kk
theorem pf_Mo_40 (S : CallFix p m c cc nL s args zT RMo) (hnm : meth.name = "<init>") (w : zw G A s ws H locs) (q0 : Nat) {fs : List Value} (he : ws[q0]? = some (a, .inr (7, fs))) {v : Value} (hn : narrow (tyMo 17) v = v) (hfit : fits (tyMo 17) v = true) (hl : 17 < fs.length) (hw : ws.set q0 (a, .inr (7, fs.set 17 v)) = ws') (hdg : decode cc pc = .ok (.putfield 40, 3)) (kk : ∀ (H1 : Heap) (locs1 : List Loc), zw G A s ws' H1 locs1 → W p l e R s m args below meth c H1 locs1 cells slots Q (F0 m (pc + 3) ls rest)) : W p l e R s m args below meth c H locs cells slots Q (F0 m pc ls (v :: .ref a :: rest)) := z_putF 17 S (uz inMo) tyMo tyMo_ok nmMo rfl (by decide) rfl (zin (List.mem_of_getElem? (i := 650) (by decide +kernel)) rfl) rfl rfl hnm w q0 he hn hfit hl hw hdg kk
theorem pf_Mo_44 (S : CallFix p m c cc nL s args zT RMo) (hnm : meth.name = "<init>") (w : zw G A s ws H locs) (q0 : Nat) {fs : List Value} (he : ws[q0]? = some (a, .inr (7, fs))) {v : Value} (hn : narrow (tyMo 18) v = v) (hfit : fits (tyMo 18) v = true) (hl : 18 < fs.length) (hw : ws.set q0 (a, .inr (7, fs.set 18 v)) = ws') (hdg : decode cc pc = .ok (.putfield 44, 3)) (kk : ∀ (H1 : Heap) (locs1 : List Loc), zw G A s ws' H1 locs1 → W p l e R s m args below meth c H1 locs1 cells slots Q (F0 m (pc + 3) ls rest)) : W p l e R s m args below meth c H locs cells slots Q (F0 m pc ls (v :: .ref a :: rest)) := z_putF 18 S (uz inMo) tyMo tyMo_ok nmMo rfl (by decide) rfl (zin (List.mem_of_getElem? (i := 651) (by decide +kernel)) rfl) rfl rfl hnm w q0 he hn hfit hl hw hdg kk
theorem pf_Mo_47 (S : CallFix p m c cc nL s args zT RMo) (hnm : meth.name = "<init>") (w : zw G A s ws H locs) (q0 : Nat) {fs : List Value} (he : ws[q0]? = some (a, .inr (7, fs))) {v : Value} (hn : narrow (tyMo 19) v = v) (hfit : fits (tyMo 19) v = true) (hl : 19 < fs.length) (hw : ws.set q0 (a, .inr (7, fs.set 19 v)) = ws') (hdg : decode cc pc = .ok (.putfield 47, 3)) (kk : ∀ (H1 : Heap) (locs1 : List Loc), zw G A s ws' H1 locs1 → W p l e R s m args below meth c H1 locs1 cells slots Q (F0 m (pc + 3) ls rest)) : W p l e R s m args below meth c H locs cells slots Q (F0 m pc ls (v :: .ref a :: rest)) := z_putF 19 S (uz inMo) tyMo tyMo_ok nmMo rfl (by decide) rfl (zin (List.mem_of_getElem? (i := 652) (by decide +kernel)) rfl) rfl rfl hnm w q0 he hn hfit hl hw hdg kk
theorem pf_Mo_50 (S : CallFix p m c cc nL s args zT RMo) (hnm : meth.name = "<init>") (w : zw G A s ws H locs) (q0 : Nat) {fs : List Value} (he : ws[q0]? = some (a, .inr (7, fs))) {v : Value} (hn : narrow (tyMo 20) v = v) (hfit : fits (tyMo 20) v = true) (hl : 20 < fs.length) (hw : ws.set q0 (a, .inr (7, fs.set 20 v)) = ws') (hdg : decode cc pc = .ok (.putfield 50, 3)) (kk : ∀ (H1 : Heap) (locs1 : List Loc), zw G A s ws' H1 locs1 → W p l e R s m args below meth c H1 locs1 cells slots Q (F0 m (pc + 3) ls rest)) : W p l e R s m args below meth c H locs cells slots Q (F0 m pc ls (v :: .ref a :: rest)) := z_putF 20 S (uz inMo) tyMo tyMo_ok nmMo rfl (by decide) rfl (zin (List.mem_of_getElem? (i := 653) (by decide +kernel)) rfl) rfl rfl hnm w q0 he hn hfit hl hw hdg kk
theorem kc_Mo_53 : Cond.constant RMo 53 (nI 65536) ∈ zT := (zin (List.mem_of_getElem? (i := 632) (by decide +kernel)) rfl)
theorem pf_Mo_54 (S : CallFix p m c cc nL s args zT RMo) (w : zw G A s ws H locs) (q0 : Nat) {fs : List Value} (he : ws[q0]? = some (a, .inr (7, fs))) {v : Value} (hn : narrow (tyMo 9) v = v) (hfit : fits (tyMo 9) v = true) (hl : 9 < fs.length) (hw : ws.set q0 (a, .inr (7, fs.set 9 v)) = ws') (hdg : decode cc pc = .ok (.putfield 54, 3)) (kk : ∀ (H1 : Heap) (locs1 : List Loc), zw G A s ws' H1 locs1 → W p l e R s m args below meth c H1 locs1 cells slots Q (F0 m (pc + 3) ls rest)) : W p l e R s m args below meth c H locs cells slots Q (F0 m pc ls (v :: .ref a :: rest)) := z_put 9 S (uz inMo) tyMo tyMo_ok nmMo rfl (by decide) rfl (zin (List.mem_of_getElem? (i := 642) (by decide +kernel)) rfl) rfl w q0 he hn hfit hl hw hdg kk
theorem pf_Mo_58 (S : CallFix p m c cc nL s args zT RMo) (w : zw G A s ws H locs) (q0 : Nat) {fs : List Value} (he : ws[q0]? = some (a, .inr (7, fs))) {v : Value} (hn : narrow (tyMo 4) v = v) (hfit : fits (tyMo 4) v = true) (hl : 4 < fs.length) (hw : ws.set q0 (a, .inr (7, fs.set 4 v)) = ws') (hdg : decode cc pc = .ok (.putfield 58, 3)) (kk : ∀ (H1 : Heap) (locs1 : List Loc), zw G A s ws' H1 locs1 → W p l e R s m args below meth c H1 locs1 cells slots Q (F0 m (pc + 3) ls rest)) : W p l e R s m args below meth c H locs cells slots Q (F0 m pc ls (v :: .ref a :: rest)) := z_put 4 S (uz inMo) tyMo tyMo_ok nmMo rfl (by decide) rfl (zin (List.mem_of_getElem? (i := 637) (by decide +kernel)) rfl) rfl w q0 he hn hfit hl hw hdg kk
theorem pf_Mo_61 (S : CallFix p m c cc nL s args zT RMo) (w : zw G A s ws H locs) (q0 : Nat) {fs : List Value} (he : ws[q0]? = some (a, .inr (7, fs))) {v : Value} (hn : narrow (tyMo 11) v = v) (hfit : fits (tyMo 11) v = true) (hl : 11 < fs.length) (hw : ws.set q0 (a, .inr (7, fs.set 11 v)) = ws') (hdg : decode cc pc = .ok (.putfield 61, 3)) (kk : ∀ (H1 : Heap) (locs1 : List Loc), zw G A s ws' H1 locs1 → W p l e R s m args below meth c H1 locs1 cells slots Q (F0 m (pc + 3) ls rest)) : W p l e R s m args below meth c H locs cells slots Q (F0 m pc ls (v :: .ref a :: rest)) := z_put 11 S (uz inMo) tyMo tyMo_ok nmMo rfl (by decide) rfl (zin (List.mem_of_getElem? (i := 644) (by decide +kernel)) rfl) rfl w q0 he hn hfit hl hw hdg kk
theorem gf_Mo_16 (S : CallFix p m c cc nL s args zT RMo) (r : zr G s ws H) (q0 : Nat) {fs : List Value} (he : ws[q0]? = some (a, .inr (7, fs))) {v : Value} (hv : fs[3]? = some v) (hdg : decode cc pc = .ok (.getfield 16, 3)) (kk : W p l e R s m args below meth c H locs cells slots Q (F0 m (pc + 3) ls (v :: rest))) : W p l e R s m args below meth c H locs cells slots Q (F0 m pc ls (.ref a :: rest)) := z_get 3 S (uz inMo) rfl (by decide) rfl (zin (List.mem_of_getElem? (i := 636) (by decide +kernel)) rfl) r q0 he hv hdg kk
theorem gf_Mo_68 (S : CallFix p m c cc nL s args zT RMo) (r : zr G s ws H) (q0 : Nat) {fs : List Value} (he : ws[q0]? = some (a, .inr (7, fs))) {v : Value} (hv : fs[0]? = some v) (hdg : decode cc pc = .ok (.getfield 68, 3)) (kk : W p l e R s m args below meth c H locs cells slots Q (F0 m (pc + 3) ls (v :: rest))) : W p l e R s m args below meth c H locs cells slots Q (F0 m pc ls (.ref a :: rest)) := z_get 0 S (uz inMo) rfl (by decide) rfl (zin (List.mem_of_getElem? (i := 633) (by decide +kernel)) rfl) r q0 he hv hdg kk
set_option maxRecDepth 40000 in
theorem mv_Mo_71 : zSt RMo 71 yMo_in cMo_in 6 (some .boolean) 3 := ⟨⟨(zin (List.mem_of_getElem? (i := 709) (by decide +kernel)) rfl), (zin (List.mem_of_getElem? (i := 710) (by decide +kernel)) rfl), (zin (List.mem_of_getElem? (i := 47) (by decide +kernel)) rfl), (zin (List.mem_of_getElem? (i := 711) rfl) rfl)⟩, (by decide), (by decide), (by decide +kernel)⟩
theorem gf_Mo_7 (S : CallFix p m c cc nL s args zT RMo) (r : zr G s ws H) (q0 : Nat) {fs : List Value} (he : ws[q0]? = some (a, .inr (7, fs))) {v : Value} (hv : fs[1]? = some v) (hdg : decode cc pc = .ok (.getfield 7, 3)) (kk : W p l e R s m args below meth c H locs cells slots Q (F0 m (pc + 3) ls (v :: rest))) : W p l e R s m args below meth c H locs cells slots Q (F0 m pc ls (.ref a :: rest)) := z_get 1 S (uz inMo) rfl (by decide) rfl (zin (List.mem_of_getElem? (i := 634) (by decide +kernel)) rfl) r q0 he hv hdg kk
theorem pf_Mo_65 (S : CallFix p m c cc nL s args zT RMo) (w : zw G A s ws H locs) (q0 : Nat) {fs : List Value} (he : ws[q0]? = some (a, .inr (7, fs))) {v : Value} (hn : narrow (tyMo 22) v = v) (hfit : fits (tyMo 22) v = true) (hl : 22 < fs.length) (hw : ws.set q0 (a, .inr (7, fs.set 22 v)) = ws') (hdg : decode cc pc = .ok (.putfield 65, 3)) (kk : ∀ (H1 : Heap) (locs1 : List Loc), zw G A s ws' H1 locs1 → W p l e R s m args below meth c H1 locs1 cells slots Q (F0 m (pc + 3) ls rest)) : W p l e R s m args below meth c H locs cells slots Q (F0 m pc ls (v :: .ref a :: rest)) := z_put 22 S (uz inMo) tyMo tyMo_ok nmMo rfl (by decide) rfl (zin (List.mem_of_getElem? (i := 655) (by decide +kernel)) rfl) rfl w q0 he hn hfit hl hw hdg kk
theorem kc_Mo_75 : Cond.constantLong RMo 75 (lN 2) ∈ zT := (zin (List.mem_of_getElem? (i := 707) (by decide +kernel)) rfl)
theorem kc_Mo_77 : Cond.constantLong RMo 77 (lN 4) ∈ zT := (zin (List.mem_of_getElem? (i := 708) (by decide +kernel)) rfl)
theorem gf_Mo_58 (S : CallFix p m c cc nL s args zT RMo) (r : zr G s ws H) (q0 : Nat) {fs : List Value} (he : ws[q0]? = some (a, .inr (7, fs))) {v : Value} (hv : fs[4]? = some v) (hdg : decode cc pc = .ok (.getfield 58, 3)) (kk : W p l e R s m args below meth c H locs cells slots Q (F0 m (pc + 3) ls (v :: rest))) : W p l e R s m args below meth c H locs cells slots Q (F0 m pc ls (.ref a :: rest)) := z_get 4 S (uz inMo) rfl (by decide) rfl (zin (List.mem_of_getElem? (i := 637) (by decide +kernel)) rfl) r q0 he hv hdg kk
theorem gf_Mo_13 (S : CallFix p m c cc nL s args zT RMo) (r : zr G s ws H) (q0 : Nat) {fs : List Value} (he : ws[q0]? = some (a, .inr (7, fs))) {v : Value} (hv : fs[2]? = some v) (hdg : decode cc pc = .ok (.getfield 13, 3)) (kk : W p l e R s m args below meth c H locs cells slots Q (F0 m (pc + 3) ls (v :: rest))) : W p l e R s m args below meth c H locs cells slots Q (F0 m pc ls (.ref a :: rest)) := z_get 2 S (uz inMo) rfl (by decide) rfl (zin (List.mem_of_getElem? (i := 635) (by decide +kernel)) rfl) r q0 he hv hdg kk
theorem pf_Mo_68 (S : CallFix p m c cc nL s args zT RMo) (w : zw G A s ws H locs) (q0 : Nat) {fs : List Value} (he : ws[q0]? = some (a, .inr (7, fs))) {v : Value} (hn : narrow (tyMo 0) v = v) (hfit : fits (tyMo 0) v = true) (hl : 0 < fs.length) (hw : ws.set q0 (a, .inr (7, fs.set 0 v)) = ws') (hdg : decode cc pc = .ok (.putfield 68, 3)) (kk : ∀ (H1 : Heap) (locs1 : List Loc), zw G A s ws' H1 locs1 → W p l e R s m args below meth c H1 locs1 cells slots Q (F0 m (pc + 3) ls rest)) : W p l e R s m args below meth c H locs cells slots Q (F0 m pc ls (v :: .ref a :: rest)) := z_put 0 S (uz inMo) tyMo tyMo_ok nmMo rfl (by decide) rfl (zin (List.mem_of_getElem? (i := 633) (by decide +kernel)) rfl) rfl w q0 he hn hfit hl hw hdg kk
theorem gf_Mo_79 (S : CallFix p m c cc nL s args zT RMo) (r : zr G s ws H) (q0 : Nat) {fs : List Value} (he : ws[q0]? = some (a, .inr (7, fs))) {v : Value} (hv : fs[5]? = some v) (hdg : decode cc pc = .ok (.getfield 79, 3)) (kk : W p l e R s m args below meth c H locs cells slots Q (F0 m (pc + 3) ls (v :: rest))) : W p l e R s m args below meth c H locs cells slots Q (F0 m pc ls (.ref a :: rest)) := z_get 5 S (uz inMo) rfl (by decide) rfl (zin (List.mem_of_getElem? (i := 638) (by decide +kernel)) rfl) r q0 he hv hdg kk
theorem gf_Mo_22 (S : CallFix p m c cc nL s args zT RMo) (r : zr G s ws H) (q0 : Nat) {fs : List Value} (he : ws[q0]? = some (a, .inr (7, fs))) {v : Value} (hv : fs[7]? = some v) (hdg : decode cc pc = .ok (.getfield 22, 3)) (kk : W p l e R s m args below meth c H locs cells slots Q (F0 m (pc + 3) ls (v :: rest))) : W p l e R s m args below meth c H locs cells slots Q (F0 m pc ls (.ref a :: rest)) := z_get 7 S (uz inMo) rfl (by decide) rfl (zin (List.mem_of_getElem? (i := 640) (by decide +kernel)) rfl) r q0 he hv hdg kk
set_option maxRecDepth 40000 in
theorem mv_Mo_82 : zV RMo 82 yMo_isSet cMo_isSet 2 (some .boolean) 1 := ⟨⟨(zin (List.mem_of_getElem? (i := 716) (by decide +kernel)) rfl), (zin (List.mem_of_getElem? (i := 718) (by decide +kernel)) rfl), (zin (List.mem_of_getElem? (i := 16) (by decide +kernel)) rfl), (zin (List.mem_of_getElem? (i := 47) (by decide +kernel)) rfl), (zin (List.mem_of_getElem? (i := 719) rfl) rfl)⟩, (by decide), (by decide), (by decide +kernel)⟩
set_option maxRecDepth 40000 in
theorem mv_Mo_86 : zSt RMo 86 yMo_many cMo_many 3 (some .int) 1 := ⟨⟨(zin (List.mem_of_getElem? (i := 720) (by decide +kernel)) rfl), (zin (List.mem_of_getElem? (i := 721) (by decide +kernel)) rfl), (zin (List.mem_of_getElem? (i := 47) (by decide +kernel)) rfl), (zin (List.mem_of_getElem? (i := 722) rfl) rfl)⟩, (by decide), (by decide), (by decide +kernel)⟩
set_option maxRecDepth 40000 in
theorem mv_Mo_90 : zV RMo 90 yMo_allCopies cMo_allCopies 3 (some .int) 0 := ⟨⟨(zin (List.mem_of_getElem? (i := 723) (by decide +kernel)) rfl), (zin (List.mem_of_getElem? (i := 725) (by decide +kernel)) rfl), (zin (List.mem_of_getElem? (i := 17) (by decide +kernel)) rfl), (zin (List.mem_of_getElem? (i := 47) (by decide +kernel)) rfl), (zin (List.mem_of_getElem? (i := 726) rfl) rfl)⟩, (by decide), (by decide), (by decide +kernel)⟩
theorem gf_Mo_19 (S : CallFix p m c cc nL s args zT RMo) (r : zr G s ws H) (q0 : Nat) {fs : List Value} (he : ws[q0]? = some (a, .inr (7, fs))) {v : Value} (hv : fs[6]? = some v) (hdg : decode cc pc = .ok (.getfield 19, 3)) (kk : W p l e R s m args below meth c H locs cells slots Q (F0 m (pc + 3) ls (v :: rest))) : W p l e R s m args below meth c H locs cells slots Q (F0 m pc ls (.ref a :: rest)) := z_get 6 S (uz inMo) rfl (by decide) rfl (zin (List.mem_of_getElem? (i := 639) (by decide +kernel)) rfl) r q0 he hv hdg kk
theorem gf_Mo_25 (S : CallFix p m c cc nL s args zT RMo) (r : zr G s ws H) (q0 : Nat) {fs : List Value} (he : ws[q0]? = some (a, .inr (7, fs))) {v : Value} (hv : fs[8]? = some v) (hdg : decode cc pc = .ok (.getfield 25, 3)) (kk : W p l e R s m args below meth c H locs cells slots Q (F0 m (pc + 3) ls (v :: rest))) : W p l e R s m args below meth c H locs cells slots Q (F0 m pc ls (.ref a :: rest)) := z_get 8 S (uz inMo) rfl (by decide) rfl (zin (List.mem_of_getElem? (i := 641) (by decide +kernel)) rfl) r q0 he hv hdg kk
theorem pf_Mo_79 (S : CallFix p m c cc nL s args zT RMo) (w : zw G A s ws H locs) (q0 : Nat) {fs : List Value} (he : ws[q0]? = some (a, .inr (7, fs))) {v : Value} (hn : narrow (tyMo 5) v = v) (hfit : fits (tyMo 5) v = true) (hl : 5 < fs.length) (hw : ws.set q0 (a, .inr (7, fs.set 5 v)) = ws') (hdg : decode cc pc = .ok (.putfield 79, 3)) (kk : ∀ (H1 : Heap) (locs1 : List Loc), zw G A s ws' H1 locs1 → W p l e R s m args below meth c H1 locs1 cells slots Q (F0 m (pc + 3) ls rest)) : W p l e R s m args below meth c H locs cells slots Q (F0 m pc ls (v :: .ref a :: rest)) := z_put 5 S (uz inMo) tyMo tyMo_ok nmMo rfl (by decide) rfl (zin (List.mem_of_getElem? (i := 638) (by decide +kernel)) rfl) rfl w q0 he hn hfit hl hw hdg kk
set_option maxRecDepth 40000 in
theorem mv_Mo_94 : zV RMo 94 yMo_isFactor cMo_isFactor 2 (some .boolean) 1 := ⟨⟨(zin (List.mem_of_getElem? (i := 731) (by decide +kernel)) rfl), (zin (List.mem_of_getElem? (i := 733) (by decide +kernel)) rfl), (zin (List.mem_of_getElem? (i := 18) (by decide +kernel)) rfl), (zin (List.mem_of_getElem? (i := 47) (by decide +kernel)) rfl), (zin (List.mem_of_getElem? (i := 734) rfl) rfl)⟩, (by decide), (by decide), (by decide +kernel)⟩
set_option maxRecDepth 40000 in
theorem mv_Mo_97 : zV RMo 97 yMo_cells cMo_cells 4 (some .int) 1 := ⟨⟨(zin (List.mem_of_getElem? (i := 735) (by decide +kernel)) rfl), (zin (List.mem_of_getElem? (i := 737) (by decide +kernel)) rfl), (zin (List.mem_of_getElem? (i := 19) (by decide +kernel)) rfl), (zin (List.mem_of_getElem? (i := 47) (by decide +kernel)) rfl), (zin (List.mem_of_getElem? (i := 738) rfl) rfl)⟩, (by decide), (by decide), (by decide +kernel)⟩
theorem kc_Mo_100 : Cond.constantLong RMo 100 (lN 7) ∈ zT := (zin (List.mem_of_getElem? (i := 739) (by decide +kernel)) rfl)
theorem kc_Mo_102 : Cond.constantLong RMo 102 (lN 3) ∈ zT := (zin (List.mem_of_getElem? (i := 744) (by decide +kernel)) rfl)
set_option maxRecDepth 40000 in
theorem mv_Mo_104 : zV RMo 104 yMo_isName cMo_isName 2 (some .boolean) 1 := ⟨⟨(zin (List.mem_of_getElem? (i := 749) (by decide +kernel)) rfl), (zin (List.mem_of_getElem? (i := 751) (by decide +kernel)) rfl), (zin (List.mem_of_getElem? (i := 20) (by decide +kernel)) rfl), (zin (List.mem_of_getElem? (i := 47) (by decide +kernel)) rfl), (zin (List.mem_of_getElem? (i := 752) rfl) rfl)⟩, (by decide), (by decide), (by decide +kernel)⟩
theorem kc_Mo_107 : Cond.constantLong RMo 107 (-1) ∈ zT := (zin (List.mem_of_getElem? (i := 753) (by decide +kernel)) rfl)
theorem kc_Mo_109 : Cond.constantLong RMo 109 (lN 65536) ∈ zT := (zin (List.mem_of_getElem? (i := 758) (by decide +kernel)) rfl)
theorem gf_Mo_54 (S : CallFix p m c cc nL s args zT RMo) (r : zr G s ws H) (q0 : Nat) {fs : List Value} (he : ws[q0]? = some (a, .inr (7, fs))) {v : Value} (hv : fs[9]? = some v) (hdg : decode cc pc = .ok (.getfield 54, 3)) (kk : W p l e R s m args below meth c H locs cells slots Q (F0 m (pc + 3) ls (v :: rest))) : W p l e R s m args below meth c H locs cells slots Q (F0 m pc ls (.ref a :: rest)) := z_get 9 S (uz inMo) rfl (by decide) rfl (zin (List.mem_of_getElem? (i := 642) (by decide +kernel)) rfl) r q0 he hv hdg kk
theorem kc_Mo_111 : Cond.constantLong RMo 111 (lN 11) ∈ zT := (zin (List.mem_of_getElem? (i := 763) (by decide +kernel)) rfl)
theorem gf_Mo_34 (S : CallFix p m c cc nL s args zT RMo) (r : zr G s ws H) (q0 : Nat) {fs : List Value} (he : ws[q0]? = some (a, .inr (7, fs))) {v : Value} (hv : fs[15]? = some v) (hdg : decode cc pc = .ok (.getfield 34, 3)) (kk : W p l e R s m args below meth c H locs cells slots Q (F0 m (pc + 3) ls (v :: rest))) : W p l e R s m args below meth c H locs cells slots Q (F0 m pc ls (.ref a :: rest)) := z_get 15 S (uz inMo) rfl (by decide) rfl (zin (List.mem_of_getElem? (i := 648) (by decide +kernel)) rfl) r q0 he hv hdg kk
theorem gf_Mo_28 (S : CallFix p m c cc nL s args zT RMo) (r : zr G s ws H) (q0 : Nat) {fs : List Value} (he : ws[q0]? = some (a, .inr (7, fs))) {v : Value} (hv : fs[12]? = some v) (hdg : decode cc pc = .ok (.getfield 28, 3)) (kk : W p l e R s m args below meth c H locs cells slots Q (F0 m (pc + 3) ls (v :: rest))) : W p l e R s m args below meth c H locs cells slots Q (F0 m pc ls (.ref a :: rest)) := z_get 12 S (uz inMo) rfl (by decide) rfl (zin (List.mem_of_getElem? (i := 645) (by decide +kernel)) rfl) r q0 he hv hdg kk
theorem gf_Mo_31 (S : CallFix p m c cc nL s args zT RMo) (r : zr G s ws H) (q0 : Nat) {fs : List Value} (he : ws[q0]? = some (a, .inr (7, fs))) {v : Value} (hv : fs[13]? = some v) (hdg : decode cc pc = .ok (.getfield 31, 3)) (kk : W p l e R s m args below meth c H locs cells slots Q (F0 m (pc + 3) ls (v :: rest))) : W p l e R s m args below meth c H locs cells slots Q (F0 m pc ls (.ref a :: rest)) := z_get 13 S (uz inMo) rfl (by decide) rfl (zin (List.mem_of_getElem? (i := 646) (by decide +kernel)) rfl) r q0 he hv hdg kk
theorem gf_Mo_113 (S : CallFix p m c cc nL s args zT RMo) (r : zr G s ws H) (q0 : Nat) {fs : List Value} (he : ws[q0]? = some (a, .inr (7, fs))) {v : Value} (hv : fs[14]? = some v) (hdg : decode cc pc = .ok (.getfield 113, 3)) (kk : W p l e R s m args below meth c H locs cells slots Q (F0 m (pc + 3) ls (v :: rest))) : W p l e R s m args below meth c H locs cells slots Q (F0 m pc ls (.ref a :: rest)) := z_get 14 S (uz inMo) rfl (by decide) rfl (zin (List.mem_of_getElem? (i := 647) (by decide +kernel)) rfl) r q0 he hv hdg kk
set_option maxRecDepth 40000 in
theorem mv_Mo_116 : zV RMo 116 yMo_fill cMo_fill 6 (some .int) 1 := ⟨⟨(zin (List.mem_of_getElem? (i := 793) (by decide +kernel)) rfl), (zin (List.mem_of_getElem? (i := 795) (by decide +kernel)) rfl), (zin (List.mem_of_getElem? (i := 27) (by decide +kernel)) rfl), (zin (List.mem_of_getElem? (i := 47) (by decide +kernel)) rfl), (zin (List.mem_of_getElem? (i := 796) rfl) rfl)⟩, (by decide), (by decide), (by decide +kernel)⟩
theorem pf_Mo_113 (S : CallFix p m c cc nL s args zT RMo) (w : zw G A s ws H locs) (q0 : Nat) {fs : List Value} (he : ws[q0]? = some (a, .inr (7, fs))) {v : Value} (hn : narrow (tyMo 14) v = v) (hfit : fits (tyMo 14) v = true) (hl : 14 < fs.length) (hw : ws.set q0 (a, .inr (7, fs.set 14 v)) = ws') (hdg : decode cc pc = .ok (.putfield 113, 3)) (kk : ∀ (H1 : Heap) (locs1 : List Loc), zw G A s ws' H1 locs1 → W p l e R s m args below meth c H1 locs1 cells slots Q (F0 m (pc + 3) ls rest)) : W p l e R s m args below meth c H locs cells slots Q (F0 m pc ls (v :: .ref a :: rest)) := z_put 14 S (uz inMo) tyMo tyMo_ok nmMo rfl (by decide) rfl (zin (List.mem_of_getElem? (i := 647) (by decide +kernel)) rfl) rfl w q0 he hn hfit hl hw hdg kk
theorem gf_Mo_37 (S : CallFix p m c cc nL s args zT RMo) (r : zr G s ws H) (q0 : Nat) {fs : List Value} (he : ws[q0]? = some (a, .inr (7, fs))) {v : Value} (hv : fs[16]? = some v) (hdg : decode cc pc = .ok (.getfield 37, 3)) (kk : W p l e R s m args below meth c H locs cells slots Q (F0 m (pc + 3) ls (v :: rest))) : W p l e R s m args below meth c H locs cells slots Q (F0 m pc ls (.ref a :: rest)) := z_get 16 S (uz inMo) rfl (by decide) rfl (zin (List.mem_of_getElem? (i := 649) (by decide +kernel)) rfl) r q0 he hv hdg kk
set_option maxRecDepth 40000 in
theorem mv_Mo_119 : zV RMo 119 yMo_bagOf cMo_bagOf 9 (some .int) 2 := ⟨⟨(zin (List.mem_of_getElem? (i := 781) (by decide +kernel)) rfl), (zin (List.mem_of_getElem? (i := 783) (by decide +kernel)) rfl), (zin (List.mem_of_getElem? (i := 24) (by decide +kernel)) rfl), (zin (List.mem_of_getElem? (i := 47) (by decide +kernel)) rfl), (zin (List.mem_of_getElem? (i := 784) rfl) rfl)⟩, (by decide), (by decide), (by decide +kernel)⟩
theorem gf_Mo_40 (S : CallFix p m c cc nL s args zT RMo) (r : zr G s ws H) (q0 : Nat) {fs : List Value} (he : ws[q0]? = some (a, .inr (7, fs))) {v : Value} (hv : fs[17]? = some v) (hdg : decode cc pc = .ok (.getfield 40, 3)) (kk : W p l e R s m args below meth c H locs cells slots Q (F0 m (pc + 3) ls (v :: rest))) : W p l e R s m args below meth c H locs cells slots Q (F0 m pc ls (.ref a :: rest)) := z_get 17 S (uz inMo) rfl (by decide) rfl (zin (List.mem_of_getElem? (i := 650) (by decide +kernel)) rfl) r q0 he hv hdg kk
set_option maxRecDepth 40000 in
theorem mv_Mo_123 : zV RMo 123 yMo_price cMo_price 6 (some .long) 2 := ⟨⟨(zin (List.mem_of_getElem? (i := 785) (by decide +kernel)) rfl), (zin (List.mem_of_getElem? (i := 787) (by decide +kernel)) rfl), (zin (List.mem_of_getElem? (i := 25) (by decide +kernel)) rfl), (zin (List.mem_of_getElem? (i := 47) (by decide +kernel)) rfl), (zin (List.mem_of_getElem? (i := 788) rfl) rfl)⟩, (by decide), (by decide), (by decide +kernel)⟩
theorem pf_Mo_127 (S : CallFix p m c cc nL s args zT RMo) (w : zw G A s ws H locs) (q0 : Nat) {fs : List Value} (he : ws[q0]? = some (a, .inr (7, fs))) {v : Value} (hn : narrow (tyMo 10) v = v) (hfit : fits (tyMo 10) v = true) (hl : 10 < fs.length) (hw : ws.set q0 (a, .inr (7, fs.set 10 v)) = ws') (hdg : decode cc pc = .ok (.putfield 127, 3)) (kk : ∀ (H1 : Heap) (locs1 : List Loc), zw G A s ws' H1 locs1 → W p l e R s m args below meth c H1 locs1 cells slots Q (F0 m (pc + 3) ls rest)) : W p l e R s m args below meth c H locs cells slots Q (F0 m pc ls (v :: .ref a :: rest)) := z_put 10 S (uz inMo) tyMo tyMo_ok nmMo rfl (by decide) rfl (zin (List.mem_of_getElem? (i := 643) (by decide +kernel)) rfl) rfl w q0 he hn hfit hl hw hdg kk
set_option maxRecDepth 40000 in
theorem mv_Mo_130 : zV RMo 130 yMo_draw cMo_draw 3 none 0 := ⟨⟨(zin (List.mem_of_getElem? (i := 773) (by decide +kernel)) rfl), (zin (List.mem_of_getElem? (i := 775) (by decide +kernel)) rfl), (zin (List.mem_of_getElem? (i := 22) (by decide +kernel)) rfl), (zin (List.mem_of_getElem? (i := 47) (by decide +kernel)) rfl), (zin (List.mem_of_getElem? (i := 776) rfl) rfl)⟩, (by decide), (by decide), (by decide +kernel)⟩
set_option maxRecDepth 40000 in
theorem mv_Mo_133 : zV RMo 133 yMo_weighAll cMo_weighAll 6 none 0 := ⟨⟨(zin (List.mem_of_getElem? (i := 777) (by decide +kernel)) rfl), (zin (List.mem_of_getElem? (i := 779) (by decide +kernel)) rfl), (zin (List.mem_of_getElem? (i := 23) (by decide +kernel)) rfl), (zin (List.mem_of_getElem? (i := 47) (by decide +kernel)) rfl), (zin (List.mem_of_getElem? (i := 780) rfl) rfl)⟩, (by decide), (by decide), (by decide +kernel)⟩
set_option maxRecDepth 40000 in
theorem mv_Mo_136 : zV RMo 136 yMo_pick cMo_pick 7 (some .int) 2 := ⟨⟨(zin (List.mem_of_getElem? (i := 789) (by decide +kernel)) rfl), (zin (List.mem_of_getElem? (i := 791) (by decide +kernel)) rfl), (zin (List.mem_of_getElem? (i := 26) (by decide +kernel)) rfl), (zin (List.mem_of_getElem? (i := 47) (by decide +kernel)) rfl), (zin (List.mem_of_getElem? (i := 792) rfl) rfl)⟩, (by decide), (by decide), (by decide +kernel)⟩
set_option maxRecDepth 40000 in
theorem mv_Mo_139 : zV RMo 139 yMo_takeOut cMo_takeOut 5 none 2 := ⟨⟨(zin (List.mem_of_getElem? (i := 797) (by decide +kernel)) rfl), (zin (List.mem_of_getElem? (i := 799) (by decide +kernel)) rfl), (zin (List.mem_of_getElem? (i := 28) (by decide +kernel)) rfl), (zin (List.mem_of_getElem? (i := 47) (by decide +kernel)) rfl), (zin (List.mem_of_getElem? (i := 800) rfl) rfl)⟩, (by decide), (by decide), (by decide +kernel)⟩
theorem gf_Mo_61 (S : CallFix p m c cc nL s args zT RMo) (r : zr G s ws H) (q0 : Nat) {fs : List Value} (he : ws[q0]? = some (a, .inr (7, fs))) {v : Value} (hv : fs[11]? = some v) (hdg : decode cc pc = .ok (.getfield 61, 3)) (kk : W p l e R s m args below meth c H locs cells slots Q (F0 m (pc + 3) ls (v :: rest))) : W p l e R s m args below meth c H locs cells slots Q (F0 m pc ls (.ref a :: rest)) := z_get 11 S (uz inMo) rfl (by decide) rfl (zin (List.mem_of_getElem? (i := 644) (by decide +kernel)) rfl) r q0 he hv hdg kk
set_option maxRecDepth 40000 in
theorem mv_Mo_143 : zV RMo 143 yMo_work cMo_work 6 none 1 := ⟨⟨(zin (List.mem_of_getElem? (i := 769) (by decide +kernel)) rfl), (zin (List.mem_of_getElem? (i := 771) (by decide +kernel)) rfl), (zin (List.mem_of_getElem? (i := 21) (by decide +kernel)) rfl), (zin (List.mem_of_getElem? (i := 47) (by decide +kernel)) rfl), (zin (List.mem_of_getElem? (i := 772) rfl) rfl)⟩, (by decide), (by decide), (by decide +kernel)⟩
theorem kc_Mo_147 : Cond.constantLong RMo 147 (lN 5) ∈ zT := (zin (List.mem_of_getElem? (i := 768) (by decide +kernel)) rfl)
set_option maxRecDepth 40000 in
theorem mv_Mo_149 : zV RMo 149 yMo_width cMo_width 3 (some .int) 0 := ⟨⟨(zin (List.mem_of_getElem? (i := 801) (by decide +kernel)) rfl), (zin (List.mem_of_getElem? (i := 803) (by decide +kernel)) rfl), (zin (List.mem_of_getElem? (i := 29) (by decide +kernel)) rfl), (zin (List.mem_of_getElem? (i := 47) (by decide +kernel)) rfl), (zin (List.mem_of_getElem? (i := 804) rfl) rfl)⟩, (by decide), (by decide), (by decide +kernel)⟩
set_option maxRecDepth 40000 in
theorem mv_Mo_152 : zV RMo 152 yMo_refresh cMo_refresh 1 none 0 := ⟨⟨(zin (List.mem_of_getElem? (i := 809) (by decide +kernel)) rfl), (zin (List.mem_of_getElem? (i := 811) (by decide +kernel)) rfl), (zin (List.mem_of_getElem? (i := 30) (by decide +kernel)) rfl), (zin (List.mem_of_getElem? (i := 47) (by decide +kernel)) rfl), (zin (List.mem_of_getElem? (i := 812) rfl) rfl)⟩, (by decide), (by decide), (by decide +kernel)⟩
theorem kc_Mo_155 : Cond.constantLong RMo 155 (lN 9) ∈ zT := (zin (List.mem_of_getElem? (i := 817) (by decide +kernel)) rfl)
set_option maxRecDepth 40000 in
theorem mv_Mo_157 : zV RMo 157 yMo_pairs cMo_pairs 3 (some .int) 0 := ⟨⟨(zin (List.mem_of_getElem? (i := 818) (by decide +kernel)) rfl), (zin (List.mem_of_getElem? (i := 820) (by decide +kernel)) rfl), (zin (List.mem_of_getElem? (i := 31) (by decide +kernel)) rfl), (zin (List.mem_of_getElem? (i := 47) (by decide +kernel)) rfl), (zin (List.mem_of_getElem? (i := 821) rfl) rfl)⟩, (by decide), (by decide), (by decide +kernel)⟩
theorem gf_Mo_127 (S : CallFix p m c cc nL s args zT RMo) (r : zr G s ws H) (q0 : Nat) {fs : List Value} (he : ws[q0]? = some (a, .inr (7, fs))) {v : Value} (hv : fs[10]? = some v) (hdg : decode cc pc = .ok (.getfield 127, 3)) (kk : W p l e R s m args below meth c H locs cells slots Q (F0 m (pc + 3) ls (v :: rest))) : W p l e R s m args below meth c H locs cells slots Q (F0 m pc ls (.ref a :: rest)) := z_get 10 S (uz inMo) rfl (by decide) rfl (zin (List.mem_of_getElem? (i := 643) (by decide +kernel)) rfl) r q0 he hv hdg kk
set_option maxRecDepth 40000 in
theorem mv_Mo_160 : zV RMo 160 yMo_mostCells cMo_mostCells 3 (some .int) 0 := ⟨⟨(zin (List.mem_of_getElem? (i := 822) (by decide +kernel)) rfl), (zin (List.mem_of_getElem? (i := 824) (by decide +kernel)) rfl), (zin (List.mem_of_getElem? (i := 32) (by decide +kernel)) rfl), (zin (List.mem_of_getElem? (i := 47) (by decide +kernel)) rfl), (zin (List.mem_of_getElem? (i := 825) rfl) rfl)⟩, (by decide), (by decide), (by decide +kernel)⟩
theorem gf_Mo_44 (S : CallFix p m c cc nL s args zT RMo) (r : zr G s ws H) (q0 : Nat) {fs : List Value} (he : ws[q0]? = some (a, .inr (7, fs))) {v : Value} (hv : fs[18]? = some v) (hdg : decode cc pc = .ok (.getfield 44, 3)) (kk : W p l e R s m args below meth c H locs cells slots Q (F0 m (pc + 3) ls (v :: rest))) : W p l e R s m args below meth c H locs cells slots Q (F0 m pc ls (.ref a :: rest)) := z_get 18 S (uz inMo) rfl (by decide) rfl (zin (List.mem_of_getElem? (i := 651) (by decide +kernel)) rfl) r q0 he hv hdg kk
set_option maxRecDepth 40000 in
theorem mv_Mo_163 : zV RMo 163 yMo_lay cMo_lay 4 none 1 := ⟨⟨(zin (List.mem_of_getElem? (i := 843) (by decide +kernel)) rfl), (zin (List.mem_of_getElem? (i := 845) (by decide +kernel)) rfl), (zin (List.mem_of_getElem? (i := 36) (by decide +kernel)) rfl), (zin (List.mem_of_getElem? (i := 47) (by decide +kernel)) rfl), (zin (List.mem_of_getElem? (i := 846) rfl) rfl)⟩, (by decide), (by decide), (by decide +kernel)⟩
set_option maxRecDepth 40000 in
theorem mv_Mo_166 : zV RMo 166 yMo_numberOf cMo_numberOf 5 (some .int) 1 := ⟨⟨(zin (List.mem_of_getElem? (i := 847) (by decide +kernel)) rfl), (zin (List.mem_of_getElem? (i := 849) (by decide +kernel)) rfl), (zin (List.mem_of_getElem? (i := 37) (by decide +kernel)) rfl), (zin (List.mem_of_getElem? (i := 47) (by decide +kernel)) rfl), (zin (List.mem_of_getElem? (i := 850) rfl) rfl)⟩, (by decide), (by decide), (by decide +kernel)⟩
set_option maxRecDepth 40000 in
theorem mv_Mo_169 : zV RMo 169 yMo_weigh cMo_weigh 7 (some .long) 1 := ⟨⟨(zin (List.mem_of_getElem? (i := 839) (by decide +kernel)) rfl), (zin (List.mem_of_getElem? (i := 841) (by decide +kernel)) rfl), (zin (List.mem_of_getElem? (i := 35) (by decide +kernel)) rfl), (zin (List.mem_of_getElem? (i := 47) (by decide +kernel)) rfl), (zin (List.mem_of_getElem? (i := 842) rfl) rfl)⟩, (by decide), (by decide), (by decide +kernel)⟩
set_option maxRecDepth 40000 in
theorem mv_Mo_173 : zV RMo 173 yMo_isTooMuch cMo_isTooMuch 1 (some .boolean) 0 := ⟨⟨(zin (List.mem_of_getElem? (i := 830) (by decide +kernel)) rfl), (zin (List.mem_of_getElem? (i := 832) (by decide +kernel)) rfl), (zin (List.mem_of_getElem? (i := 33) (by decide +kernel)) rfl), (zin (List.mem_of_getElem? (i := 47) (by decide +kernel)) rfl), (zin (List.mem_of_getElem? (i := 833) rfl) rfl)⟩, (by decide), (by decide), (by decide +kernel)⟩
theorem kc_Mo_177 : Cond.constantLong RMo 177 (-4) ∈ zT := (zin (List.mem_of_getElem? (i := 834) (by decide +kernel)) rfl)
set_option maxRecDepth 40000 in
theorem mv_Mo_179 : zV RMo 179 yMo_sum cMo_sum 4 (some .long) 0 := ⟨⟨(zin (List.mem_of_getElem? (i := 835) (by decide +kernel)) rfl), (zin (List.mem_of_getElem? (i := 837) (by decide +kernel)) rfl), (zin (List.mem_of_getElem? (i := 34) (by decide +kernel)) rfl), (zin (List.mem_of_getElem? (i := 47) (by decide +kernel)) rfl), (zin (List.mem_of_getElem? (i := 838) rfl) rfl)⟩, (by decide), (by decide), (by decide +kernel)⟩
theorem kc_Mo_183 : Cond.constantLong RMo 183 (-2) ∈ zT := (zin (List.mem_of_getElem? (i := 855) (by decide +kernel)) rfl)
theorem kc_Mo_185 : Cond.constantLong RMo 185 (-3) ∈ zT := (zin (List.mem_of_getElem? (i := 856) (by decide +kernel)) rfl)
set_option maxRecDepth 40000 in
theorem mv_Mo_187 : zSt RMo 187 yMo_divisor cMo_divisor 10 (some .long) 2 := ⟨⟨(zin (List.mem_of_getElem? (i := 857) (by decide +kernel)) rfl), (zin (List.mem_of_getElem? (i := 858) (by decide +kernel)) rfl), (zin (List.mem_of_getElem? (i := 47) (by decide +kernel)) rfl), (zin (List.mem_of_getElem? (i := 859) rfl) rfl)⟩, (by decide), (by decide), (by decide +kernel)⟩
theorem pf_Mo_191 (S : CallFix p m c cc nL s args zT RMo) (w : zw G A s ws H locs) (q0 : Nat) {fs : List Value} (he : ws[q0]? = some (a, .inr (7, fs))) {v : Value} (hn : narrow (tyMo 21) v = v) (hfit : fits (tyMo 21) v = true) (hl : 21 < fs.length) (hw : ws.set q0 (a, .inr (7, fs.set 21 v)) = ws') (hdg : decode cc pc = .ok (.putfield 191, 3)) (kk : ∀ (H1 : Heap) (locs1 : List Loc), zw G A s ws' H1 locs1 → W p l e R s m args below meth c H1 locs1 cells slots Q (F0 m (pc + 3) ls rest)) : W p l e R s m args below meth c H locs cells slots Q (F0 m pc ls (v :: .ref a :: rest)) := z_put 21 S (uz inMo) tyMo tyMo_ok nmMo rfl (by decide) rfl (zin (List.mem_of_getElem? (i := 654) (by decide +kernel)) rfl) rfl w q0 he hn hfit hl hw hdg kk
theorem gf_Mo_191 (S : CallFix p m c cc nL s args zT RMo) (r : zr G s ws H) (q0 : Nat) {fs : List Value} (he : ws[q0]? = some (a, .inr (7, fs))) {v : Value} (hv : fs[21]? = some v) (hdg : decode cc pc = .ok (.getfield 191, 3)) (kk : W p l e R s m args below meth c H locs cells slots Q (F0 m (pc + 3) ls (v :: rest))) : W p l e R s m args below meth c H locs cells slots Q (F0 m pc ls (.ref a :: rest)) := z_get 21 S (uz inMo) rfl (by decide) rfl (zin (List.mem_of_getElem? (i := 654) (by decide +kernel)) rfl) r q0 he hv hdg kk
theorem gf_Mo_47 (S : CallFix p m c cc nL s args zT RMo) (r : zr G s ws H) (q0 : Nat) {fs : List Value} (he : ws[q0]? = some (a, .inr (7, fs))) {v : Value} (hv : fs[19]? = some v) (hdg : decode cc pc = .ok (.getfield 47, 3)) (kk : W p l e R s m args below meth c H locs cells slots Q (F0 m (pc + 3) ls (v :: rest))) : W p l e R s m args below meth c H locs cells slots Q (F0 m pc ls (.ref a :: rest)) := z_get 19 S (uz inMo) rfl (by decide) rfl (zin (List.mem_of_getElem? (i := 652) (by decide +kernel)) rfl) r q0 he hv hdg kk
theorem gf_Mo_50 (S : CallFix p m c cc nL s args zT RMo) (r : zr G s ws H) (q0 : Nat) {fs : List Value} (he : ws[q0]? = some (a, .inr (7, fs))) {v : Value} (hv : fs[20]? = some v) (hdg : decode cc pc = .ok (.getfield 50, 3)) (kk : W p l e R s m args below meth c H locs cells slots Q (F0 m (pc + 3) ls (v :: rest))) : W p l e R s m args below meth c H locs cells slots Q (F0 m pc ls (.ref a :: rest)) := z_get 20 S (uz inMo) rfl (by decide) rfl (zin (List.mem_of_getElem? (i := 653) (by decide +kernel)) rfl) r q0 he hv hdg kk
set_option maxRecDepth 40000 in
theorem mv_Mo_194 : zV RMo 194 yMo_rankAll cMo_rankAll 5 none 0 := ⟨⟨(zin (List.mem_of_getElem? (i := 864) (by decide +kernel)) rfl), (zin (List.mem_of_getElem? (i := 866) (by decide +kernel)) rfl), (zin (List.mem_of_getElem? (i := 38) (by decide +kernel)) rfl), (zin (List.mem_of_getElem? (i := 47) (by decide +kernel)) rfl), (zin (List.mem_of_getElem? (i := 867) rfl) rfl)⟩, (by decide), (by decide), (by decide +kernel)⟩
theorem kc_Mo_197 : Cond.constantLong RMo 197 (lN 23) ∈ zT := (zin (List.mem_of_getElem? (i := 876) (by decide +kernel)) rfl)
theorem pf_Fa_7 (S : CallFix p m c cc nL s args zT RFa) (w : zw G A s ws H locs) (q0 : Nat) {fs : List Value} (he : ws[q0]? = some (a, .inr (0, fs))) {v : Value} (hn : narrow (tyFa 5) v = v) (hfit : fits (tyFa 5) v = true) (hl : 5 < fs.length) (hw : ws.set q0 (a, .inr (0, fs.set 5 v)) = ws') (hdg : decode cc pc = .ok (.putfield 7, 3)) (kk : ∀ (H1 : Heap) (locs1 : List Loc), zw G A s ws' H1 locs1 → W p l e R s m args below meth c H1 locs1 cells slots Q (F0 m (pc + 3) ls rest)) : W p l e R s m args below meth c H locs cells slots Q (F0 m pc ls (v :: .ref a :: rest)) := z_put 5 S (uz inFa) tyFa tyFa_ok nmFa rfl (by decide) rfl (zin (List.mem_of_getElem? (i := 325) (by decide +kernel)) rfl) rfl w q0 he hn hfit hl hw hdg kk
set_option maxRecDepth 40000 in
theorem mv_Fa_13 : zSt RFa 13 yJi_bitCount cJi_bitCount 1 (some .int) 1 := ⟨⟨(zin (List.mem_of_getElem? (i := 315) (by decide +kernel)) rfl), (zin (List.mem_of_getElem? (i := 294) (by decide +kernel)) rfl), (zin (List.mem_of_getElem? (i := 48) (by decide +kernel)) rfl), (zin (List.mem_of_getElem? (i := 295) rfl) rfl)⟩, (by decide), (by decide), (by decide +kernel)⟩
theorem pf_Fa_19 (S : CallFix p m c cc nL s args zT RFa) (hnm : meth.name = "<init>") (w : zw G A s ws H locs) (q0 : Nat) {fs : List Value} (he : ws[q0]? = some (a, .inr (0, fs))) {v : Value} (hn : narrow (tyFa 0) v = v) (hfit : fits (tyFa 0) v = true) (hl : 0 < fs.length) (hw : ws.set q0 (a, .inr (0, fs.set 0 v)) = ws') (hdg : decode cc pc = .ok (.putfield 19, 3)) (kk : ∀ (H1 : Heap) (locs1 : List Loc), zw G A s ws' H1 locs1 → W p l e R s m args below meth c H1 locs1 cells slots Q (F0 m (pc + 3) ls rest)) : W p l e R s m args below meth c H locs cells slots Q (F0 m pc ls (v :: .ref a :: rest)) := z_putF 0 S (uz inFa) tyFa tyFa_ok nmFa rfl (by decide) rfl (zin (List.mem_of_getElem? (i := 317) (by decide +kernel)) rfl) rfl rfl hnm w q0 he hn hfit hl hw hdg kk
theorem gf_Fa_19 (S : CallFix p m c cc nL s args zT RFa) (r : zr G s ws H) (q0 : Nat) {fs : List Value} (he : ws[q0]? = some (a, .inr (0, fs))) {v : Value} (hv : fs[0]? = some v) (hdg : decode cc pc = .ok (.getfield 19, 3)) (kk : W p l e R s m args below meth c H locs cells slots Q (F0 m (pc + 3) ls (v :: rest))) : W p l e R s m args below meth c H locs cells slots Q (F0 m pc ls (.ref a :: rest)) := z_get 0 S (uz inFa) rfl (by decide) rfl (zin (List.mem_of_getElem? (i := 317) (by decide +kernel)) rfl) r q0 he hv hdg kk
theorem pf_Fa_23 (S : CallFix p m c cc nL s args zT RFa) (hnm : meth.name = "<init>") (w : zw G A s ws H locs) (q0 : Nat) {fs : List Value} (he : ws[q0]? = some (a, .inr (0, fs))) {v : Value} (hn : narrow (tyFa 1) v = v) (hfit : fits (tyFa 1) v = true) (hl : 1 < fs.length) (hw : ws.set q0 (a, .inr (0, fs.set 1 v)) = ws') (hdg : decode cc pc = .ok (.putfield 23, 3)) (kk : ∀ (H1 : Heap) (locs1 : List Loc), zw G A s ws' H1 locs1 → W p l e R s m args below meth c H1 locs1 cells slots Q (F0 m (pc + 3) ls rest)) : W p l e R s m args below meth c H locs cells slots Q (F0 m pc ls (v :: .ref a :: rest)) := z_putF 1 S (uz inFa) tyFa tyFa_ok nmFa rfl (by decide) rfl (zin (List.mem_of_getElem? (i := 318) (by decide +kernel)) rfl) rfl rfl hnm w q0 he hn hfit hl hw hdg kk
theorem gf_Fa_26 (S : CallFix p m c cc nL s args zT RFa) (r : zr G s ws H) (q0 : Nat) {fs : List Value} (he : ws[q0]? = some (a, .inr (2, fs))) {v : Value} (hv : fs[2]? = some v) (hdg : decode cc pc = .ok (.getfield 26, 3)) (kk : W p l e R s m args below meth c H locs cells slots Q (F0 m (pc + 3) ls (v :: rest))) : W p l e R s m args below meth c H locs cells slots Q (F0 m pc ls (.ref a :: rest)) := z_get 2 S (uz inGr) rfl (by decide) rfl (zin (List.mem_of_getElem? (i := 70) (by decide +kernel)) rfl) r q0 he hv hdg kk
theorem gf_Fa_23 (S : CallFix p m c cc nL s args zT RFa) (r : zr G s ws H) (q0 : Nat) {fs : List Value} (he : ws[q0]? = some (a, .inr (0, fs))) {v : Value} (hv : fs[1]? = some v) (hdg : decode cc pc = .ok (.getfield 23, 3)) (kk : W p l e R s m args below meth c H locs cells slots Q (F0 m (pc + 3) ls (v :: rest))) : W p l e R s m args below meth c H locs cells slots Q (F0 m pc ls (.ref a :: rest)) := z_get 1 S (uz inFa) rfl (by decide) rfl (zin (List.mem_of_getElem? (i := 318) (by decide +kernel)) rfl) r q0 he hv hdg kk
theorem gf_Fa_30 (S : CallFix p m c cc nL s args zT RFa) (r : zr G s ws H) (q0 : Nat) {fs : List Value} (he : ws[q0]? = some (a, .inr (2, fs))) {v : Value} (hv : fs[0]? = some v) (hdg : decode cc pc = .ok (.getfield 30, 3)) (kk : W p l e R s m args below meth c H locs cells slots Q (F0 m (pc + 3) ls (v :: rest))) : W p l e R s m args below meth c H locs cells slots Q (F0 m pc ls (.ref a :: rest)) := z_get 0 S (uz inGr) rfl (by decide) rfl (zin (List.mem_of_getElem? (i := 66) (by decide +kernel)) rfl) r q0 he hv hdg kk
theorem pf_Fa_33 (S : CallFix p m c cc nL s args zT RFa) (hnm : meth.name = "<init>") (w : zw G A s ws H locs) (q0 : Nat) {fs : List Value} (he : ws[q0]? = some (a, .inr (0, fs))) {v : Value} (hn : narrow (tyFa 2) v = v) (hfit : fits (tyFa 2) v = true) (hl : 2 < fs.length) (hw : ws.set q0 (a, .inr (0, fs.set 2 v)) = ws') (hdg : decode cc pc = .ok (.putfield 33, 3)) (kk : ∀ (H1 : Heap) (locs1 : List Loc), zw G A s ws' H1 locs1 → W p l e R s m args below meth c H1 locs1 cells slots Q (F0 m (pc + 3) ls rest)) : W p l e R s m args below meth c H locs cells slots Q (F0 m pc ls (v :: .ref a :: rest)) := z_putF 2 S (uz inFa) tyFa tyFa_ok nmFa rfl (by decide) rfl (zin (List.mem_of_getElem? (i := 319) (by decide +kernel)) rfl) rfl rfl hnm w q0 he hn hfit hl hw hdg kk
theorem pf_Fa_36 (S : CallFix p m c cc nL s args zT RFa) (hnm : meth.name = "<init>") (w : zw G A s ws H locs) (q0 : Nat) {fs : List Value} (he : ws[q0]? = some (a, .inr (0, fs))) {v : Value} (hn : narrow (tyFa 3) v = v) (hfit : fits (tyFa 3) v = true) (hl : 3 < fs.length) (hw : ws.set q0 (a, .inr (0, fs.set 3 v)) = ws') (hdg : decode cc pc = .ok (.putfield 36, 3)) (kk : ∀ (H1 : Heap) (locs1 : List Loc), zw G A s ws' H1 locs1 → W p l e R s m args below meth c H1 locs1 cells slots Q (F0 m (pc + 3) ls rest)) : W p l e R s m args below meth c H locs cells slots Q (F0 m pc ls (v :: .ref a :: rest)) := z_putF 3 S (uz inFa) tyFa tyFa_ok nmFa rfl (by decide) rfl (zin (List.mem_of_getElem? (i := 321) (by decide +kernel)) rfl) rfl rfl hnm w q0 he hn hfit hl hw hdg kk
theorem gf_Fa_33 (S : CallFix p m c cc nL s args zT RFa) (r : zr G s ws H) (q0 : Nat) {fs : List Value} (he : ws[q0]? = some (a, .inr (0, fs))) {v : Value} (hv : fs[2]? = some v) (hdg : decode cc pc = .ok (.getfield 33, 3)) (kk : W p l e R s m args below meth c H locs cells slots Q (F0 m (pc + 3) ls (v :: rest))) : W p l e R s m args below meth c H locs cells slots Q (F0 m pc ls (.ref a :: rest)) := z_get 2 S (uz inFa) rfl (by decide) rfl (zin (List.mem_of_getElem? (i := 319) (by decide +kernel)) rfl) r q0 he hv hdg kk
set_option maxRecDepth 40000 in
theorem mv_Fa_39 : zSt RFa 39 yJa_fill_II cJa_fill_II 4 none 2 := ⟨⟨(zin (List.mem_of_getElem? (i := 316) (by decide +kernel)) rfl), (zin (List.mem_of_getElem? (i := 145) (by decide +kernel)) rfl), (zin (List.mem_of_getElem? (i := 45) (by decide +kernel)) rfl), (zin (List.mem_of_getElem? (i := 146) rfl) rfl)⟩, (by decide), (by decide), (by decide +kernel)⟩
theorem gf_Fa_36 (S : CallFix p m c cc nL s args zT RFa) (r : zr G s ws H) (q0 : Nat) {fs : List Value} (he : ws[q0]? = some (a, .inr (0, fs))) {v : Value} (hv : fs[3]? = some v) (hdg : decode cc pc = .ok (.getfield 36, 3)) (kk : W p l e R s m args below meth c H locs cells slots Q (F0 m (pc + 3) ls (v :: rest))) : W p l e R s m args below meth c H locs cells slots Q (F0 m pc ls (.ref a :: rest)) := z_get 3 S (uz inFa) rfl (by decide) rfl (zin (List.mem_of_getElem? (i := 321) (by decide +kernel)) rfl) r q0 he hv hdg kk
theorem pf_Fa_45 (S : CallFix p m c cc nL s args zT RFa) (hnm : meth.name = "<init>") (w : zw G A s ws H locs) (q0 : Nat) {fs : List Value} (he : ws[q0]? = some (a, .inr (0, fs))) {v : Value} (hn : narrow (tyFa 4) v = v) (hfit : fits (tyFa 4) v = true) (hl : 4 < fs.length) (hw : ws.set q0 (a, .inr (0, fs.set 4 v)) = ws') (hdg : decode cc pc = .ok (.putfield 45, 3)) (kk : ∀ (H1 : Heap) (locs1 : List Loc), zw G A s ws' H1 locs1 → W p l e R s m args below meth c H1 locs1 cells slots Q (F0 m (pc + 3) ls rest)) : W p l e R s m args below meth c H locs cells slots Q (F0 m pc ls (v :: .ref a :: rest)) := z_putF 4 S (uz inFa) tyFa tyFa_ok nmFa rfl (by decide) rfl (zin (List.mem_of_getElem? (i := 323) (by decide +kernel)) rfl) rfl rfl hnm w q0 he hn hfit hl hw hdg kk
set_option maxRecDepth 40000 in
theorem mv_Fa_49 : zV RFa 49 yFa_power cFa_power 4 (some .int) 1 := ⟨⟨(zin (List.mem_of_getElem? (i := 352) (by decide +kernel)) rfl), (zin (List.mem_of_getElem? (i := 354) (by decide +kernel)) rfl), (zin (List.mem_of_getElem? (i := 0) (by decide +kernel)) rfl), (zin (List.mem_of_getElem? (i := 49) (by decide +kernel)) rfl), (zin (List.mem_of_getElem? (i := 355) rfl) rfl)⟩, (by decide), (by decide), (by decide +kernel)⟩
theorem gf_Fa_7 (S : CallFix p m c cc nL s args zT RFa) (r : zr G s ws H) (q0 : Nat) {fs : List Value} (he : ws[q0]? = some (a, .inr (0, fs))) {v : Value} (hv : fs[5]? = some v) (hdg : decode cc pc = .ok (.getfield 7, 3)) (kk : W p l e R s m args below meth c H locs cells slots Q (F0 m (pc + 3) ls (v :: rest))) : W p l e R s m args below meth c H locs cells slots Q (F0 m pc ls (.ref a :: rest)) := z_get 5 S (uz inFa) rfl (by decide) rfl (zin (List.mem_of_getElem? (i := 325) (by decide +kernel)) rfl) r q0 he hv hdg kk
set_option maxRecDepth 40000 in
theorem mv_Fa_52 : zV RFa 52 yFa_entryAt cFa_entryAt 4 (some .int) 1 := ⟨⟨(zin (List.mem_of_getElem? (i := 541) (by decide +kernel)) rfl), (zin (List.mem_of_getElem? (i := 542) (by decide +kernel)) rfl), (zin (List.mem_of_getElem? (i := 543) (by decide +kernel)) rfl), (zin (List.mem_of_getElem? (i := 49) (by decide +kernel)) rfl), (zin (List.mem_of_getElem? (i := 544) rfl) rfl)⟩, (by decide), (by decide), (by decide +kernel)⟩
theorem pf_Fs_11 (S : CallFix p m c cc nL s args zT RFs) (hnm : meth.name = "<init>") (w : zw G A s ws H locs) (q0 : Nat) {fs : List Value} (he : ws[q0]? = some (a, .inr (1, fs))) {v : Value} (hn : narrow (tyFs 1) v = v) (hfit : fits (tyFs 1) v = true) (hl : 1 < fs.length) (hw : ws.set q0 (a, .inr (1, fs.set 1 v)) = ws') (hdg : decode cc pc = .ok (.putfield 11, 3)) (kk : ∀ (H1 : Heap) (locs1 : List Loc), zw G A s ws' H1 locs1 → W p l e R s m args below meth c H1 locs1 cells slots Q (F0 m (pc + 3) ls rest)) : W p l e R s m args below meth c H locs cells slots Q (F0 m pc ls (v :: .ref a :: rest)) := z_putF 1 S (uz inFs) tyFs tyFs_ok nmFs rfl (by decide) rfl (zin (List.mem_of_getElem? (i := 98) (by decide +kernel)) rfl) rfl rfl hnm w q0 he hn hfit hl hw hdg kk
theorem pf_Fs_17 (S : CallFix p m c cc nL s args zT RFs) (hnm : meth.name = "<init>") (w : zw G A s ws H locs) (q0 : Nat) {fs : List Value} (he : ws[q0]? = some (a, .inr (1, fs))) {v : Value} (hn : narrow (tyFs 2) v = v) (hfit : fits (tyFs 2) v = true) (hl : 2 < fs.length) (hw : ws.set q0 (a, .inr (1, fs.set 2 v)) = ws') (hdg : decode cc pc = .ok (.putfield 17, 3)) (kk : ∀ (H1 : Heap) (locs1 : List Loc), zw G A s ws' H1 locs1 → W p l e R s m args below meth c H1 locs1 cells slots Q (F0 m (pc + 3) ls rest)) : W p l e R s m args below meth c H locs cells slots Q (F0 m pc ls (v :: .ref a :: rest)) := z_putF 2 S (uz inFs) tyFs tyFs_ok nmFs rfl (by decide) rfl (zin (List.mem_of_getElem? (i := 99) (by decide +kernel)) rfl) rfl rfl hnm w q0 he hn hfit hl hw hdg kk
theorem pf_Fs_20 (S : CallFix p m c cc nL s args zT RFs) (hnm : meth.name = "<init>") (w : zw G A s ws H locs) (q0 : Nat) {fs : List Value} (he : ws[q0]? = some (a, .inr (1, fs))) {v : Value} (hn : narrow (tyFs 0) v = v) (hfit : fits (tyFs 0) v = true) (hl : 0 < fs.length) (hw : ws.set q0 (a, .inr (1, fs.set 0 v)) = ws') (hdg : decode cc pc = .ok (.putfield 20, 3)) (kk : ∀ (H1 : Heap) (locs1 : List Loc), zw G A s ws' H1 locs1 → W p l e R s m args below meth c H1 locs1 cells slots Q (F0 m (pc + 3) ls rest)) : W p l e R s m args below meth c H locs cells slots Q (F0 m pc ls (v :: .ref a :: rest)) := z_putF 0 S (uz inFs) tyFs tyFs_ok nmFs rfl (by decide) rfl (zin (List.mem_of_getElem? (i := 97) (by decide +kernel)) rfl) rfl rfl hnm w q0 he hn hfit hl hw hdg kk
theorem gf_Fs_24 (S : CallFix p m c cc nL s args zT RFs) (r : zr G s ws H) (q0 : Nat) {fs : List Value} (he : ws[q0]? = some (a, .inr (1, fs))) {v : Value} (hv : fs[3]? = some v) (hdg : decode cc pc = .ok (.getfield 24, 3)) (kk : W p l e R s m args below meth c H locs cells slots Q (F0 m (pc + 3) ls (v :: rest))) : W p l e R s m args below meth c H locs cells slots Q (F0 m pc ls (.ref a :: rest)) := z_get 3 S (uz inFs) rfl (by decide) rfl (zin (List.mem_of_getElem? (i := 100) (by decide +kernel)) rfl) r q0 he hv hdg kk
set_option maxRecDepth 40000 in
theorem mv_Fs_28 : zSt RFs 28 yFs_afterLastName cFs_afterLastName 3 (some .int) 1 := ⟨⟨(zin (List.mem_of_getElem? (i := 307) (by decide +kernel)) rfl), (zin (List.mem_of_getElem? (i := 308) (by decide +kernel)) rfl), (zin (List.mem_of_getElem? (i := 42) (by decide +kernel)) rfl), (zin (List.mem_of_getElem? (i := 309) rfl) rfl)⟩, (by decide), (by decide), (by decide +kernel)⟩
theorem gf_Fs_20 (S : CallFix p m c cc nL s args zT RFs) (r : zr G s ws H) (q0 : Nat) {fs : List Value} (he : ws[q0]? = some (a, .inr (1, fs))) {v : Value} (hv : fs[0]? = some v) (hdg : decode cc pc = .ok (.getfield 20, 3)) (kk : W p l e R s m args below meth c H locs cells slots Q (F0 m (pc + 3) ls (v :: rest))) : W p l e R s m args below meth c H locs cells slots Q (F0 m pc ls (.ref a :: rest)) := z_get 0 S (uz inFs) rfl (by decide) rfl (zin (List.mem_of_getElem? (i := 97) (by decide +kernel)) rfl) r q0 he hv hdg kk
theorem gf_Fs_17 (S : CallFix p m c cc nL s args zT RFs) (r : zr G s ws H) (q0 : Nat) {fs : List Value} (he : ws[q0]? = some (a, .inr (1, fs))) {v : Value} (hv : fs[2]? = some v) (hdg : decode cc pc = .ok (.getfield 17, 3)) (kk : W p l e R s m args below meth c H locs cells slots Q (F0 m (pc + 3) ls (v :: rest))) : W p l e R s m args below meth c H locs cells slots Q (F0 m pc ls (.ref a :: rest)) := z_get 2 S (uz inFs) rfl (by decide) rfl (zin (List.mem_of_getElem? (i := 99) (by decide +kernel)) rfl) r q0 he hv hdg kk
set_option maxRecDepth 40000 in
theorem mv_Fs_32 : zN RFs 32 yFa_init cFa_init 7 3 := ⟨⟨(zin (List.mem_of_getElem? (i := 311) (by decide +kernel)) rfl), (zin (List.mem_of_getElem? (i := 312) (by decide +kernel)) rfl), (zin (List.mem_of_getElem? (i := 49) (by decide +kernel)) rfl), (zin (List.mem_of_getElem? (i := 313) rfl) rfl)⟩, rfl, (by decide), (by decide), (by decide +kernel)⟩
theorem gf_Fs_11 (S : CallFix p m c cc nL s args zT RFs) (r : zr G s ws H) (q0 : Nat) {fs : List Value} (he : ws[q0]? = some (a, .inr (1, fs))) {v : Value} (hv : fs[1]? = some v) (hdg : decode cc pc = .ok (.getfield 11, 3)) (kk : W p l e R s m args below meth c H locs cells slots Q (F0 m (pc + 3) ls (v :: rest))) : W p l e R s m args below meth c H locs cells slots Q (F0 m pc ls (.ref a :: rest)) := z_get 1 S (uz inFs) rfl (by decide) rfl (zin (List.mem_of_getElem? (i := 98) (by decide +kernel)) rfl) r q0 he hv hdg kk
theorem pf_Fs_24 (S : CallFix p m c cc nL s args zT RFs) (w : zw G A s ws H locs) (q0 : Nat) {fs : List Value} (he : ws[q0]? = some (a, .inr (1, fs))) {v : Value} (hn : narrow (tyFs 3) v = v) (hfit : fits (tyFs 3) v = true) (hl : 3 < fs.length) (hw : ws.set q0 (a, .inr (1, fs.set 3 v)) = ws') (hdg : decode cc pc = .ok (.putfield 24, 3)) (kk : ∀ (H1 : Heap) (locs1 : List Loc), zw G A s ws' H1 locs1 → W p l e R s m args below meth c H1 locs1 cells slots Q (F0 m (pc + 3) ls rest)) : W p l e R s m args below meth c H locs cells slots Q (F0 m pc ls (v :: .ref a :: rest)) := z_put 3 S (uz inFs) tyFs tyFs_ok nmFs rfl (by decide) rfl (zin (List.mem_of_getElem? (i := 100) (by decide +kernel)) rfl) rfl w q0 he hn hfit hl hw hdg kk
theorem gf_Fs_35 (S : CallFix p m c cc nL s args zT RFs) (r : zr G s ws H) (q0 : Nat) {fs : List Value} (he : ws[q0]? = some (a, .inr (1, fs))) {v : Value} (hv : fs[4]? = some v) (hdg : decode cc pc = .ok (.getfield 35, 3)) (kk : W p l e R s m args below meth c H locs cells slots Q (F0 m (pc + 3) ls (v :: rest))) : W p l e R s m args below meth c H locs cells slots Q (F0 m pc ls (.ref a :: rest)) := z_get 4 S (uz inFs) rfl (by decide) rfl (zin (List.mem_of_getElem? (i := 102) (by decide +kernel)) rfl) r q0 he hv hdg kk
theorem pf_Fs_35 (S : CallFix p m c cc nL s args zT RFs) (w : zw G A s ws H locs) (q0 : Nat) {fs : List Value} (he : ws[q0]? = some (a, .inr (1, fs))) {v : Value} (hn : narrow (tyFs 4) v = v) (hfit : fits (tyFs 4) v = true) (hl : 4 < fs.length) (hw : ws.set q0 (a, .inr (1, fs.set 4 v)) = ws') (hdg : decode cc pc = .ok (.putfield 35, 3)) (kk : ∀ (H1 : Heap) (locs1 : List Loc), zw G A s ws' H1 locs1 → W p l e R s m args below meth c H1 locs1 cells slots Q (F0 m (pc + 3) ls rest)) : W p l e R s m args below meth c H locs cells slots Q (F0 m pc ls (v :: .ref a :: rest)) := z_put 4 S (uz inFs) tyFs tyFs_ok nmFs rfl (by decide) rfl (zin (List.mem_of_getElem? (i := 102) (by decide +kernel)) rfl) rfl w q0 he hn hfit hl hw hdg kk
set_option maxRecDepth 40000 in
theorem mv_Fs_38 : zV RFs 38 yFa_setTimes cFa_setTimes 4 (some .int) 1 := ⟨⟨(zin (List.mem_of_getElem? (i := 364) (by decide +kernel)) rfl), (zin (List.mem_of_getElem? (i := 365) (by decide +kernel)) rfl), (zin (List.mem_of_getElem? (i := 366) (by decide +kernel)) rfl), (zin (List.mem_of_getElem? (i := 49) (by decide +kernel)) rfl), (zin (List.mem_of_getElem? (i := 367) rfl) rfl)⟩, (by decide), (by decide), (by decide +kernel)⟩
theorem gf_Fs_41 (S : CallFix p m c cc nL s args zT RFs) (r : zr G s ws H) (q0 : Nat) {fs : List Value} (he : ws[q0]? = some (a, .inr (0, fs))) {v : Value} (hv : fs[3]? = some v) (hdg : decode cc pc = .ok (.getfield 41, 3)) (kk : W p l e R s m args below meth c H locs cells slots Q (F0 m (pc + 3) ls (v :: rest))) : W p l e R s m args below meth c H locs cells slots Q (F0 m pc ls (.ref a :: rest)) := z_get 3 S (uz inFa) rfl (by decide) rfl (zin (List.mem_of_getElem? (i := 322) (by decide +kernel)) rfl) r q0 he hv hdg kk
theorem gf_Fs_45 (S : CallFix p m c cc nL s args zT RFs) (r : zr G s ws H) (q0 : Nat) {fs : List Value} (he : ws[q0]? = some (a, .inr (0, fs))) {v : Value} (hv : fs[4]? = some v) (hdg : decode cc pc = .ok (.getfield 45, 3)) (kk : W p l e R s m args below meth c H locs cells slots Q (F0 m (pc + 3) ls (v :: rest))) : W p l e R s m args below meth c H locs cells slots Q (F0 m pc ls (.ref a :: rest)) := z_get 4 S (uz inFa) rfl (by decide) rfl (zin (List.mem_of_getElem? (i := 324) (by decide +kernel)) rfl) r q0 he hv hdg kk
theorem gf_Fs_49 (S : CallFix p m c cc nL s args zT RFs) (r : zr G s ws H) (q0 : Nat) {fs : List Value} (he : ws[q0]? = some (a, .inr (2, fs))) {v : Value} (hv : fs[0]? = some v) (hdg : decode cc pc = .ok (.getfield 49, 3)) (kk : W p l e R s m args below meth c H locs cells slots Q (F0 m (pc + 3) ls (v :: rest))) : W p l e R s m args below meth c H locs cells slots Q (F0 m pc ls (.ref a :: rest)) := z_get 0 S (uz inGr) rfl (by decide) rfl (zin (List.mem_of_getElem? (i := 68) (by decide +kernel)) rfl) r q0 he hv hdg kk
set_option maxRecDepth 40000 in
theorem mv_Fs_54 : zV RFs 54 yFa_multiply cFa_multiply 8 none 4 := ⟨⟨(zin (List.mem_of_getElem? (i := 537) (by decide +kernel)) rfl), (zin (List.mem_of_getElem? (i := 538) (by decide +kernel)) rfl), (zin (List.mem_of_getElem? (i := 539) (by decide +kernel)) rfl), (zin (List.mem_of_getElem? (i := 49) (by decide +kernel)) rfl), (zin (List.mem_of_getElem? (i := 540) rfl) rfl)⟩, (by decide), (by decide), (by decide +kernel)⟩
set_option maxRecDepth 40000 in
theorem mv_Fs_58 : zV RFs 58 yFs_numbered cFs_numbered 2 (some (.object "TableOrders$Factor")) 1 := ⟨⟨(zin (List.mem_of_getElem? (i := 621) (by decide +kernel)) rfl), (zin (List.mem_of_getElem? (i := 345) (by decide +kernel)) rfl), (zin (List.mem_of_getElem? (i := 346) (by decide +kernel)) rfl), (zin (List.mem_of_getElem? (i := 42) (by decide +kernel)) rfl), (zin (List.mem_of_getElem? (i := 347) rfl) rfl)⟩, (by decide), (by decide), (by decide +kernel)⟩
set_option maxRecDepth 40000 in
theorem mv_Fs_62 : zV RFs 62 yFa_powerAt cFa_powerAt 3 (some .int) 1 := ⟨⟨(zin (List.mem_of_getElem? (i := 622) (by decide +kernel)) rfl), (zin (List.mem_of_getElem? (i := 623) (by decide +kernel)) rfl), (zin (List.mem_of_getElem? (i := 624) (by decide +kernel)) rfl), (zin (List.mem_of_getElem? (i := 49) (by decide +kernel)) rfl), (zin (List.mem_of_getElem? (i := 625) rfl) rfl)⟩, (by decide), (by decide), (by decide +kernel)⟩
theorem pf_Gr_9 (S : CallFix p m c cc nL s args zT RGr) (hnm : meth.name = "<init>") (w : zw G A s ws H locs) (q0 : Nat) {fs : List Value} (he : ws[q0]? = some (a, .inr (2, fs))) {v : Value} (hn : narrow (tyGr 0) v = v) (hfit : fits (tyGr 0) v = true) (hl : 0 < fs.length) (hw : ws.set q0 (a, .inr (2, fs.set 0 v)) = ws') (hdg : decode cc pc = .ok (.putfield 9, 3)) (kk : ∀ (H1 : Heap) (locs1 : List Loc), zw G A s ws' H1 locs1 → W p l e R s m args below meth c H1 locs1 cells slots Q (F0 m (pc + 3) ls rest)) : W p l e R s m args below meth c H locs cells slots Q (F0 m pc ls (v :: .ref a :: rest)) := z_putF 0 S (uz inGr) tyGr tyGr_ok nmGr rfl (by decide) rfl (zin (List.mem_of_getElem? (i := 65) (by decide +kernel)) rfl) rfl rfl hnm w q0 he hn hfit hl hw hdg kk
theorem pf_Gr_15 (S : CallFix p m c cc nL s args zT RGr) (hnm : meth.name = "<init>") (w : zw G A s ws H locs) (q0 : Nat) {fs : List Value} (he : ws[q0]? = some (a, .inr (2, fs))) {v : Value} (hn : narrow (tyGr 1) v = v) (hfit : fits (tyGr 1) v = true) (hl : 1 < fs.length) (hw : ws.set q0 (a, .inr (2, fs.set 1 v)) = ws') (hdg : decode cc pc = .ok (.putfield 15, 3)) (kk : ∀ (H1 : Heap) (locs1 : List Loc), zw G A s ws' H1 locs1 → W p l e R s m args below meth c H1 locs1 cells slots Q (F0 m (pc + 3) ls rest)) : W p l e R s m args below meth c H locs cells slots Q (F0 m pc ls (v :: .ref a :: rest)) := z_putF 1 S (uz inGr) tyGr tyGr_ok nmGr rfl (by decide) rfl (zin (List.mem_of_getElem? (i := 69) (by decide +kernel)) rfl) rfl rfl hnm w q0 he hn hfit hl hw hdg kk
theorem pf_Gr_18 (S : CallFix p m c cc nL s args zT RGr) (w : zw G A s ws H locs) (q0 : Nat) {fs : List Value} (he : ws[q0]? = some (a, .inr (2, fs))) {v : Value} (hn : narrow (tyGr 3) v = v) (hfit : fits (tyGr 3) v = true) (hl : 3 < fs.length) (hw : ws.set q0 (a, .inr (2, fs.set 3 v)) = ws') (hdg : decode cc pc = .ok (.putfield 18, 3)) (kk : ∀ (H1 : Heap) (locs1 : List Loc), zw G A s ws' H1 locs1 → W p l e R s m args below meth c H1 locs1 cells slots Q (F0 m (pc + 3) ls rest)) : W p l e R s m args below meth c H locs cells slots Q (F0 m pc ls (v :: .ref a :: rest)) := z_put 3 S (uz inGr) tyGr tyGr_ok nmGr rfl (by decide) rfl (zin (List.mem_of_getElem? (i := 76) (by decide +kernel)) rfl) rfl w q0 he hn hfit hl hw hdg kk
theorem gf_Gr_22 (S : CallFix p m c cc nL s args zT RGr) (r : zr G s ws H) (q0 : Nat) {fs : List Value} (he : ws[q0]? = some (a, .inr (2, fs))) {v : Value} (hv : fs[2]? = some v) (hdg : decode cc pc = .ok (.getfield 22, 3)) (kk : W p l e R s m args below meth c H locs cells slots Q (F0 m (pc + 3) ls (v :: rest))) : W p l e R s m args below meth c H locs cells slots Q (F0 m pc ls (.ref a :: rest)) := z_get 2 S (uz inGr) rfl (by decide) rfl (zin (List.mem_of_getElem? (i := 71) (by decide +kernel)) rfl) r q0 he hv hdg kk
theorem gf_Gr_9 (S : CallFix p m c cc nL s args zT RGr) (r : zr G s ws H) (q0 : Nat) {fs : List Value} (he : ws[q0]? = some (a, .inr (2, fs))) {v : Value} (hv : fs[0]? = some v) (hdg : decode cc pc = .ok (.getfield 9, 3)) (kk : W p l e R s m args below meth c H locs cells slots Q (F0 m (pc + 3) ls (v :: rest))) : W p l e R s m args below meth c H locs cells slots Q (F0 m pc ls (.ref a :: rest)) := z_get 0 S (uz inGr) rfl (by decide) rfl (zin (List.mem_of_getElem? (i := 65) (by decide +kernel)) rfl) r q0 he hv hdg kk
theorem pf_Gr_22 (S : CallFix p m c cc nL s args zT RGr) (w : zw G A s ws H locs) (q0 : Nat) {fs : List Value} (he : ws[q0]? = some (a, .inr (2, fs))) {v : Value} (hn : narrow (tyGr 2) v = v) (hfit : fits (tyGr 2) v = true) (hl : 2 < fs.length) (hw : ws.set q0 (a, .inr (2, fs.set 2 v)) = ws') (hdg : decode cc pc = .ok (.putfield 22, 3)) (kk : ∀ (H1 : Heap) (locs1 : List Loc), zw G A s ws' H1 locs1 → W p l e R s m args below meth c H1 locs1 cells slots Q (F0 m (pc + 3) ls rest)) : W p l e R s m args below meth c H locs cells slots Q (F0 m pc ls (v :: .ref a :: rest)) := z_put 2 S (uz inGr) tyGr tyGr_ok nmGr rfl (by decide) rfl (zin (List.mem_of_getElem? (i := 71) (by decide +kernel)) rfl) rfl w q0 he hn hfit hl hw hdg kk
theorem gf_Gr_18 (S : CallFix p m c cc nL s args zT RGr) (r : zr G s ws H) (q0 : Nat) {fs : List Value} (he : ws[q0]? = some (a, .inr (2, fs))) {v : Value} (hv : fs[3]? = some v) (hdg : decode cc pc = .ok (.getfield 18, 3)) (kk : W p l e R s m args below meth c H locs cells slots Q (F0 m (pc + 3) ls (v :: rest))) : W p l e R s m args below meth c H locs cells slots Q (F0 m pc ls (.ref a :: rest)) := z_get 3 S (uz inGr) rfl (by decide) rfl (zin (List.mem_of_getElem? (i := 76) (by decide +kernel)) rfl) r q0 he hv hdg kk
theorem gf_Gr_15 (S : CallFix p m c cc nL s args zT RGr) (r : zr G s ws H) (q0 : Nat) {fs : List Value} (he : ws[q0]? = some (a, .inr (2, fs))) {v : Value} (hv : fs[1]? = some v) (hdg : decode cc pc = .ok (.getfield 15, 3)) (kk : W p l e R s m args below meth c H locs cells slots Q (F0 m (pc + 3) ls (v :: rest))) : W p l e R s m args below meth c H locs cells slots Q (F0 m pc ls (.ref a :: rest)) := z_get 1 S (uz inGr) rfl (by decide) rfl (zin (List.mem_of_getElem? (i := 69) (by decide +kernel)) rfl) r q0 he hv hdg kk
set_option maxRecDepth 40000 in
theorem mv_Gr_25 : zSt RGr 25 yJi_bitCount cJi_bitCount 1 (some .int) 1 := ⟨⟨(zin (List.mem_of_getElem? (i := 429) (by decide +kernel)) rfl), (zin (List.mem_of_getElem? (i := 294) (by decide +kernel)) rfl), (zin (List.mem_of_getElem? (i := 48) (by decide +kernel)) rfl), (zin (List.mem_of_getElem? (i := 295) rfl) rfl)⟩, (by decide), (by decide), (by decide +kernel)⟩
set_option maxRecDepth 40000 in
theorem mv_Gr_31 : zV RGr 31 yGr_reached cGr_reached 8 (some .int) 2 := ⟨⟨(zin (List.mem_of_getElem? (i := 425) (by decide +kernel)) rfl), (zin (List.mem_of_getElem? (i := 426) (by decide +kernel)) rfl), (zin (List.mem_of_getElem? (i := 427) (by decide +kernel)) rfl), (zin (List.mem_of_getElem? (i := 41) (by decide +kernel)) rfl), (zin (List.mem_of_getElem? (i := 428) rfl) rfl)⟩, (by decide), (by decide), (by decide +kernel)⟩
set_option maxRecDepth 40000 in
theorem mv_Gr_35 : zSt RGr 35 yGr_quotient cGr_quotient 2 (some .int) 2 := ⟨⟨(zin (List.mem_of_getElem? (i := 581) (by decide +kernel)) rfl), (zin (List.mem_of_getElem? (i := 560) (by decide +kernel)) rfl), (zin (List.mem_of_getElem? (i := 41) (by decide +kernel)) rfl), (zin (List.mem_of_getElem? (i := 561) rfl) rfl)⟩, (by decide), (by decide), (by decide +kernel)⟩
set_option maxRecDepth 40000 in
theorem mv_Gr_38 : zSt RGr 38 yGr_remainder cGr_remainder 2 (some .int) 2 := ⟨⟨(zin (List.mem_of_getElem? (i := 582) (by decide +kernel)) rfl), (zin (List.mem_of_getElem? (i := 557) (by decide +kernel)) rfl), (zin (List.mem_of_getElem? (i := 41) (by decide +kernel)) rfl), (zin (List.mem_of_getElem? (i := 558) rfl) rfl)⟩, (by decide), (by decide), (by decide +kernel)⟩
theorem pf_Se_9 (S : CallFix p m c cc nL s args zT RSe) (hnm : meth.name = "<init>") (w : zw G A s ws H locs) (q0 : Nat) {fs : List Value} (he : ws[q0]? = some (a, .inr (3, fs))) {v : Value} (hn : narrow (tySe 1) v = v) (hfit : fits (tySe 1) v = true) (hl : 1 < fs.length) (hw : ws.set q0 (a, .inr (3, fs.set 1 v)) = ws') (hdg : decode cc pc = .ok (.putfield 9, 3)) (kk : ∀ (H1 : Heap) (locs1 : List Loc), zw G A s ws' H1 locs1 → W p l e R s m args below meth c H1 locs1 cells slots Q (F0 m (pc + 3) ls rest)) : W p l e R s m args below meth c H locs cells slots Q (F0 m pc ls (v :: .ref a :: rest)) := z_putF 1 S (uz inSe) tySe tySe_ok nmSe rfl (by decide) rfl (zin (List.mem_of_getElem? (i := 128) (by decide +kernel)) rfl) rfl rfl hnm w q0 he hn hfit hl hw hdg kk
theorem pf_Se_15 (S : CallFix p m c cc nL s args zT RSe) (w : zw G A s ws H locs) (q0 : Nat) {fs : List Value} (he : ws[q0]? = some (a, .inr (3, fs))) {v : Value} (hn : narrow (tySe 2) v = v) (hfit : fits (tySe 2) v = true) (hl : 2 < fs.length) (hw : ws.set q0 (a, .inr (3, fs.set 2 v)) = ws') (hdg : decode cc pc = .ok (.putfield 15, 3)) (kk : ∀ (H1 : Heap) (locs1 : List Loc), zw G A s ws' H1 locs1 → W p l e R s m args below meth c H1 locs1 cells slots Q (F0 m (pc + 3) ls rest)) : W p l e R s m args below meth c H locs cells slots Q (F0 m pc ls (v :: .ref a :: rest)) := z_put 2 S (uz inSe) tySe tySe_ok nmSe rfl (by decide) rfl (zin (List.mem_of_getElem? (i := 130) (by decide +kernel)) rfl) rfl w q0 he hn hfit hl hw hdg kk
theorem pf_Se_18 (S : CallFix p m c cc nL s args zT RSe) (w : zw G A s ws H locs) (q0 : Nat) {fs : List Value} (he : ws[q0]? = some (a, .inr (3, fs))) {v : Value} (hn : narrow (tySe 3) v = v) (hfit : fits (tySe 3) v = true) (hl : 3 < fs.length) (hw : ws.set q0 (a, .inr (3, fs.set 3 v)) = ws') (hdg : decode cc pc = .ok (.putfield 18, 3)) (kk : ∀ (H1 : Heap) (locs1 : List Loc), zw G A s ws' H1 locs1 → W p l e R s m args below meth c H1 locs1 cells slots Q (F0 m (pc + 3) ls rest)) : W p l e R s m args below meth c H locs cells slots Q (F0 m pc ls (v :: .ref a :: rest)) := z_put 3 S (uz inSe) tySe tySe_ok nmSe rfl (by decide) rfl (zin (List.mem_of_getElem? (i := 131) (by decide +kernel)) rfl) rfl w q0 he hn hfit hl hw hdg kk
theorem pf_Se_21 (S : CallFix p m c cc nL s args zT RSe) (hnm : meth.name = "<init>") (w : zw G A s ws H locs) (q0 : Nat) {fs : List Value} (he : ws[q0]? = some (a, .inr (3, fs))) {v : Value} (hn : narrow (tySe 0) v = v) (hfit : fits (tySe 0) v = true) (hl : 0 < fs.length) (hw : ws.set q0 (a, .inr (3, fs.set 0 v)) = ws') (hdg : decode cc pc = .ok (.putfield 21, 3)) (kk : ∀ (H1 : Heap) (locs1 : List Loc), zw G A s ws' H1 locs1 → W p l e R s m args below meth c H1 locs1 cells slots Q (F0 m (pc + 3) ls rest)) : W p l e R s m args below meth c H locs cells slots Q (F0 m pc ls (v :: .ref a :: rest)) := z_putF 0 S (uz inSe) tySe tySe_ok nmSe rfl (by decide) rfl (zin (List.mem_of_getElem? (i := 127) (by decide +kernel)) rfl) rfl rfl hnm w q0 he hn hfit hl hw hdg kk
theorem pf_Se_25 (S : CallFix p m c cc nL s args zT RSe) (w : zw G A s ws H locs) (q0 : Nat) {fs : List Value} (he : ws[q0]? = some (a, .inr (3, fs))) {v : Value} (hn : narrow (tySe 4) v = v) (hfit : fits (tySe 4) v = true) (hl : 4 < fs.length) (hw : ws.set q0 (a, .inr (3, fs.set 4 v)) = ws') (hdg : decode cc pc = .ok (.putfield 25, 3)) (kk : ∀ (H1 : Heap) (locs1 : List Loc), zw G A s ws' H1 locs1 → W p l e R s m args below meth c H1 locs1 cells slots Q (F0 m (pc + 3) ls rest)) : W p l e R s m args below meth c H locs cells slots Q (F0 m pc ls (v :: .ref a :: rest)) := z_put 4 S (uz inSe) tySe tySe_ok nmSe rfl (by decide) rfl (zin (List.mem_of_getElem? (i := 132) (by decide +kernel)) rfl) rfl w q0 he hn hfit hl hw hdg kk
theorem gf_Se_25 (S : CallFix p m c cc nL s args zT RSe) (r : zr G s ws H) (q0 : Nat) {fs : List Value} (he : ws[q0]? = some (a, .inr (3, fs))) {v : Value} (hv : fs[4]? = some v) (hdg : decode cc pc = .ok (.getfield 25, 3)) (kk : W p l e R s m args below meth c H locs cells slots Q (F0 m (pc + 3) ls (v :: rest))) : W p l e R s m args below meth c H locs cells slots Q (F0 m pc ls (.ref a :: rest)) := z_get 4 S (uz inSe) rfl (by decide) rfl (zin (List.mem_of_getElem? (i := 132) (by decide +kernel)) rfl) r q0 he hv hdg kk
set_option maxRecDepth 40000 in
theorem mv_Se_29 : zV RSe 29 ySe_prepareRows cSe_prepareRows 3 none 0 := ⟨⟨(zin (List.mem_of_getElem? (i := 408) (by decide +kernel)) rfl), (zin (List.mem_of_getElem? (i := 410) (by decide +kernel)) rfl), (zin (List.mem_of_getElem? (i := 1) (by decide +kernel)) rfl), (zin (List.mem_of_getElem? (i := 44) (by decide +kernel)) rfl), (zin (List.mem_of_getElem? (i := 411) rfl) rfl)⟩, (by decide), (by decide), (by decide +kernel)⟩
set_option maxRecDepth 40000 in
theorem mv_Se_32 : zV RSe 32 ySe_leastWidth cSe_leastWidth 7 (some .int) 0 := ⟨⟨(zin (List.mem_of_getElem? (i := 417) (by decide +kernel)) rfl), (zin (List.mem_of_getElem? (i := 419) (by decide +kernel)) rfl), (zin (List.mem_of_getElem? (i := 2) (by decide +kernel)) rfl), (zin (List.mem_of_getElem? (i := 44) (by decide +kernel)) rfl), (zin (List.mem_of_getElem? (i := 420) rfl) rfl)⟩, (by decide), (by decide), (by decide +kernel)⟩
set_option maxRecDepth 40000 in
theorem mv_Se_36 : zV RSe 36 ySe_countLeastCells cSe_countLeastCells 7 none 1 := ⟨⟨(zin (List.mem_of_getElem? (i := 437) (by decide +kernel)) rfl), (zin (List.mem_of_getElem? (i := 439) (by decide +kernel)) rfl), (zin (List.mem_of_getElem? (i := 3) (by decide +kernel)) rfl), (zin (List.mem_of_getElem? (i := 44) (by decide +kernel)) rfl), (zin (List.mem_of_getElem? (i := 440) rfl) rfl)⟩, (by decide), (by decide), (by decide +kernel)⟩
set_option maxRecDepth 40000 in
theorem mv_Se_40 : zV RSe 40 ySe_follow cSe_follow 6 none 1 := ⟨⟨(zin (List.mem_of_getElem? (i := 446) (by decide +kernel)) rfl), (zin (List.mem_of_getElem? (i := 448) (by decide +kernel)) rfl), (zin (List.mem_of_getElem? (i := 5) (by decide +kernel)) rfl), (zin (List.mem_of_getElem? (i := 44) (by decide +kernel)) rfl), (zin (List.mem_of_getElem? (i := 449) rfl) rfl)⟩, (by decide), (by decide), (by decide +kernel)⟩
theorem gf_Se_21 (S : CallFix p m c cc nL s args zT RSe) (r : zr G s ws H) (q0 : Nat) {fs : List Value} (he : ws[q0]? = some (a, .inr (3, fs))) {v : Value} (hv : fs[0]? = some v) (hdg : decode cc pc = .ok (.getfield 21, 3)) (kk : W p l e R s m args below meth c H locs cells slots Q (F0 m (pc + 3) ls (v :: rest))) : W p l e R s m args below meth c H locs cells slots Q (F0 m pc ls (.ref a :: rest)) := z_get 0 S (uz inSe) rfl (by decide) rfl (zin (List.mem_of_getElem? (i := 127) (by decide +kernel)) rfl) r q0 he hv hdg kk
set_option maxRecDepth 40000 in
theorem mv_Se_43 : zV RSe 43 yGr_everyName cGr_everyName 1 (some .int) 0 := ⟨⟨(zin (List.mem_of_getElem? (i := 412) (by decide +kernel)) rfl), (zin (List.mem_of_getElem? (i := 397) (by decide +kernel)) rfl), (zin (List.mem_of_getElem? (i := 398) (by decide +kernel)) rfl), (zin (List.mem_of_getElem? (i := 41) (by decide +kernel)) rfl), (zin (List.mem_of_getElem? (i := 399) rfl) rfl)⟩, (by decide), (by decide), (by decide +kernel)⟩
theorem gf_Se_15 (S : CallFix p m c cc nL s args zT RSe) (r : zr G s ws H) (q0 : Nat) {fs : List Value} (he : ws[q0]? = some (a, .inr (3, fs))) {v : Value} (hv : fs[2]? = some v) (hdg : decode cc pc = .ok (.getfield 15, 3)) (kk : W p l e R s m args below meth c H locs cells slots Q (F0 m (pc + 3) ls (v :: rest))) : W p l e R s m args below meth c H locs cells slots Q (F0 m pc ls (.ref a :: rest)) := z_get 2 S (uz inSe) rfl (by decide) rfl (zin (List.mem_of_getElem? (i := 130) (by decide +kernel)) rfl) r q0 he hv hdg kk
set_option maxRecDepth 40000 in
theorem mv_Se_48 : zV RSe 48 yGr_cellsOf cGr_cellsOf 4 (some .int) 1 := ⟨⟨(zin (List.mem_of_getElem? (i := 413) (by decide +kernel)) rfl), (zin (List.mem_of_getElem? (i := 414) (by decide +kernel)) rfl), (zin (List.mem_of_getElem? (i := 415) (by decide +kernel)) rfl), (zin (List.mem_of_getElem? (i := 41) (by decide +kernel)) rfl), (zin (List.mem_of_getElem? (i := 416) rfl) rfl)⟩, (by decide), (by decide), (by decide +kernel)⟩
theorem gf_Se_18 (S : CallFix p m c cc nL s args zT RSe) (r : zr G s ws H) (q0 : Nat) {fs : List Value} (he : ws[q0]? = some (a, .inr (3, fs))) {v : Value} (hv : fs[3]? = some v) (hdg : decode cc pc = .ok (.getfield 18, 3)) (kk : W p l e R s m args below meth c H locs cells slots Q (F0 m (pc + 3) ls (v :: rest))) : W p l e R s m args below meth c H locs cells slots Q (F0 m pc ls (.ref a :: rest)) := z_get 3 S (uz inSe) rfl (by decide) rfl (zin (List.mem_of_getElem? (i := 131) (by decide +kernel)) rfl) r q0 he hv hdg kk
theorem gf_Se_52 (S : CallFix p m c cc nL s args zT RSe) (r : zr G s ws H) (q0 : Nat) {fs : List Value} (he : ws[q0]? = some (a, .inr (2, fs))) {v : Value} (hv : fs[2]? = some v) (hdg : decode cc pc = .ok (.getfield 52, 3)) (kk : W p l e R s m args below meth c H locs cells slots Q (F0 m (pc + 3) ls (v :: rest))) : W p l e R s m args below meth c H locs cells slots Q (F0 m pc ls (.ref a :: rest)) := z_get 2 S (uz inGr) rfl (by decide) rfl (zin (List.mem_of_getElem? (i := 75) (by decide +kernel)) rfl) r q0 he hv hdg kk
set_option maxRecDepth 40000 in
theorem mv_Se_56 : zV RSe 56 yGr_bagOf cGr_bagOf 3 (some .int) 2 := ⟨⟨(zin (List.mem_of_getElem? (i := 421) (by decide +kernel)) rfl), (zin (List.mem_of_getElem? (i := 422) (by decide +kernel)) rfl), (zin (List.mem_of_getElem? (i := 423) (by decide +kernel)) rfl), (zin (List.mem_of_getElem? (i := 41) (by decide +kernel)) rfl), (zin (List.mem_of_getElem? (i := 424) rfl) rfl)⟩, (by decide), (by decide), (by decide +kernel)⟩
set_option maxRecDepth 40000 in
theorem mv_Se_60 : zSt RSe 60 yJi_bitCount cJi_bitCount 1 (some .int) 1 := ⟨⟨(zin (List.mem_of_getElem? (i := 430) (by decide +kernel)) rfl), (zin (List.mem_of_getElem? (i := 294) (by decide +kernel)) rfl), (zin (List.mem_of_getElem? (i := 48) (by decide +kernel)) rfl), (zin (List.mem_of_getElem? (i := 295) rfl) rfl)⟩, (by decide), (by decide), (by decide +kernel)⟩
set_option maxRecDepth 40000 in
theorem mv_Se_65 : zSt RSe 65 yJm_max cJm_max 2 (some .int) 2 := ⟨⟨(zin (List.mem_of_getElem? (i := 431) (by decide +kernel)) rfl), (zin (List.mem_of_getElem? (i := 432) (by decide +kernel)) rfl), (zin (List.mem_of_getElem? (i := 50) (by decide +kernel)) rfl), (zin (List.mem_of_getElem? (i := 433) rfl) rfl)⟩, (by decide), (by decide), (by decide +kernel)⟩
set_option maxRecDepth 40000 in
theorem mv_Se_70 : zSt RSe 70 yJm_min cJm_min 2 (some .int) 2 := ⟨⟨(zin (List.mem_of_getElem? (i := 434) (by decide +kernel)) rfl), (zin (List.mem_of_getElem? (i := 435) (by decide +kernel)) rfl), (zin (List.mem_of_getElem? (i := 50) (by decide +kernel)) rfl), (zin (List.mem_of_getElem? (i := 436) rfl) rfl)⟩, (by decide), (by decide), (by decide +kernel)⟩
theorem kc_Se_73 : Cond.constant RSe 73 (nI 268435456) ∈ zT := (zin (List.mem_of_getElem? (i := 441) (by decide +kernel)) rfl)
set_option maxRecDepth 40000 in
theorem mv_Se_74 : zV RSe 74 ySe_cellsFrom cSe_cellsFrom 6 (some .int) 3 := ⟨⟨(zin (List.mem_of_getElem? (i := 442) (by decide +kernel)) rfl), (zin (List.mem_of_getElem? (i := 444) (by decide +kernel)) rfl), (zin (List.mem_of_getElem? (i := 4) (by decide +kernel)) rfl), (zin (List.mem_of_getElem? (i := 44) (by decide +kernel)) rfl), (zin (List.mem_of_getElem? (i := 445) rfl) rfl)⟩, (by decide), (by decide), (by decide +kernel)⟩
theorem gf_Se_9 (S : CallFix p m c cc nL s args zT RSe) (r : zr G s ws H) (q0 : Nat) {fs : List Value} (he : ws[q0]? = some (a, .inr (3, fs))) {v : Value} (hv : fs[1]? = some v) (hdg : decode cc pc = .ok (.getfield 9, 3)) (kk : W p l e R s m args below meth c H locs cells slots Q (F0 m (pc + 3) ls (v :: rest))) : W p l e R s m args below meth c H locs cells slots Q (F0 m pc ls (.ref a :: rest)) := z_get 1 S (uz inSe) rfl (by decide) rfl (zin (List.mem_of_getElem? (i := 128) (by decide +kernel)) rfl) r q0 he hv hdg kk
theorem pf_Sq_9 (S : CallFix p m c cc nL s args zT RSq) (hnm : meth.name = "<init>") (w : zw G A s ws H locs) (q0 : Nat) {fs : List Value} (he : ws[q0]? = some (a, .inr (4, fs))) {v : Value} (hn : narrow (tySq 2) v = v) (hfit : fits (tySq 2) v = true) (hl : 2 < fs.length) (hw : ws.set q0 (a, .inr (4, fs.set 2 v)) = ws') (hdg : decode cc pc = .ok (.putfield 9, 3)) (kk : ∀ (H1 : Heap) (locs1 : List Loc), zw G A s ws' H1 locs1 → W p l e R s m args below meth c H1 locs1 cells slots Q (F0 m (pc + 3) ls rest)) : W p l e R s m args below meth c H locs cells slots Q (F0 m pc ls (v :: .ref a :: rest)) := z_putF 2 S (uz inSq) tySq tySq_ok nmSq rfl (by decide) rfl (zin (List.mem_of_getElem? (i := 149) (by decide +kernel)) rfl) rfl rfl hnm w q0 he hn hfit hl hw hdg kk
theorem pf_Sq_15 (S : CallFix p m c cc nL s args zT RSq) (hnm : meth.name = "<init>") (w : zw G A s ws H locs) (q0 : Nat) {fs : List Value} (he : ws[q0]? = some (a, .inr (4, fs))) {v : Value} (hn : narrow (tySq 3) v = v) (hfit : fits (tySq 3) v = true) (hl : 3 < fs.length) (hw : ws.set q0 (a, .inr (4, fs.set 3 v)) = ws') (hdg : decode cc pc = .ok (.putfield 15, 3)) (kk : ∀ (H1 : Heap) (locs1 : List Loc), zw G A s ws' H1 locs1 → W p l e R s m args below meth c H1 locs1 cells slots Q (F0 m (pc + 3) ls rest)) : W p l e R s m args below meth c H locs cells slots Q (F0 m pc ls (v :: .ref a :: rest)) := z_putF 3 S (uz inSq) tySq tySq_ok nmSq rfl (by decide) rfl (zin (List.mem_of_getElem? (i := 151) (by decide +kernel)) rfl) rfl rfl hnm w q0 he hn hfit hl hw hdg kk
theorem pf_Sq_18 (S : CallFix p m c cc nL s args zT RSq) (hnm : meth.name = "<init>") (w : zw G A s ws H locs) (q0 : Nat) {fs : List Value} (he : ws[q0]? = some (a, .inr (4, fs))) {v : Value} (hn : narrow (tySq 4) v = v) (hfit : fits (tySq 4) v = true) (hl : 4 < fs.length) (hw : ws.set q0 (a, .inr (4, fs.set 4 v)) = ws') (hdg : decode cc pc = .ok (.putfield 18, 3)) (kk : ∀ (H1 : Heap) (locs1 : List Loc), zw G A s ws' H1 locs1 → W p l e R s m args below meth c H1 locs1 cells slots Q (F0 m (pc + 3) ls rest)) : W p l e R s m args below meth c H locs cells slots Q (F0 m pc ls (v :: .ref a :: rest)) := z_putF 4 S (uz inSq) tySq tySq_ok nmSq rfl (by decide) rfl (zin (List.mem_of_getElem? (i := 153) (by decide +kernel)) rfl) rfl rfl hnm w q0 he hn hfit hl hw hdg kk
theorem pf_Sq_21 (S : CallFix p m c cc nL s args zT RSq) (hnm : meth.name = "<init>") (w : zw G A s ws H locs) (q0 : Nat) {fs : List Value} (he : ws[q0]? = some (a, .inr (4, fs))) {v : Value} (hn : narrow (tySq 0) v = v) (hfit : fits (tySq 0) v = true) (hl : 0 < fs.length) (hw : ws.set q0 (a, .inr (4, fs.set 0 v)) = ws') (hdg : decode cc pc = .ok (.putfield 21, 3)) (kk : ∀ (H1 : Heap) (locs1 : List Loc), zw G A s ws' H1 locs1 → W p l e R s m args below meth c H1 locs1 cells slots Q (F0 m (pc + 3) ls rest)) : W p l e R s m args below meth c H locs cells slots Q (F0 m pc ls (v :: .ref a :: rest)) := z_putF 0 S (uz inSq) tySq tySq_ok nmSq rfl (by decide) rfl (zin (List.mem_of_getElem? (i := 147) (by decide +kernel)) rfl) rfl rfl hnm w q0 he hn hfit hl hw hdg kk
set_option maxRecDepth 40000 in
theorem mv_Sq_27 : zN RSq 27 ySe_init cSe_init 2 1 := ⟨⟨(zin (List.mem_of_getElem? (i := 123) (by decide +kernel)) rfl), (zin (List.mem_of_getElem? (i := 124) (by decide +kernel)) rfl), (zin (List.mem_of_getElem? (i := 44) (by decide +kernel)) rfl), (zin (List.mem_of_getElem? (i := 125) rfl) rfl)⟩, rfl, (by decide), (by decide), (by decide +kernel)⟩
theorem pf_Sq_30 (S : CallFix p m c cc nL s args zT RSq) (hnm : meth.name = "<init>") (w : zw G A s ws H locs) (q0 : Nat) {fs : List Value} (he : ws[q0]? = some (a, .inr (4, fs))) {v : Value} (hn : narrow (tySq 1) v = v) (hfit : fits (tySq 1) v = true) (hl : 1 < fs.length) (hw : ws.set q0 (a, .inr (4, fs.set 1 v)) = ws') (hdg : decode cc pc = .ok (.putfield 30, 3)) (kk : ∀ (H1 : Heap) (locs1 : List Loc), zw G A s ws' H1 locs1 → W p l e R s m args below meth c H1 locs1 cells slots Q (F0 m (pc + 3) ls rest)) : W p l e R s m args below meth c H locs cells slots Q (F0 m pc ls (v :: .ref a :: rest)) := z_putF 1 S (uz inSq) tySq tySq_ok nmSq rfl (by decide) rfl (zin (List.mem_of_getElem? (i := 148) (by decide +kernel)) rfl) rfl rfl hnm w q0 he hn hfit hl hw hdg kk
theorem gf_Sq_9 (S : CallFix p m c cc nL s args zT RSq) (r : zr G s ws H) (q0 : Nat) {fs : List Value} (he : ws[q0]? = some (a, .inr (4, fs))) {v : Value} (hv : fs[2]? = some v) (hdg : decode cc pc = .ok (.getfield 9, 3)) (kk : W p l e R s m args below meth c H locs cells slots Q (F0 m (pc + 3) ls (v :: rest))) : W p l e R s m args below meth c H locs cells slots Q (F0 m pc ls (.ref a :: rest)) := z_get 2 S (uz inSq) rfl (by decide) rfl (zin (List.mem_of_getElem? (i := 149) (by decide +kernel)) rfl) r q0 he hv hdg kk
set_option maxRecDepth 40000 in
theorem mv_Sq_34 : zSt RSq 34 yJa_fill_II cJa_fill_II 4 none 2 := ⟨⟨(zin (List.mem_of_getElem? (i := 144) (by decide +kernel)) rfl), (zin (List.mem_of_getElem? (i := 145) (by decide +kernel)) rfl), (zin (List.mem_of_getElem? (i := 45) (by decide +kernel)) rfl), (zin (List.mem_of_getElem? (i := 146) rfl) rfl)⟩, (by decide), (by decide), (by decide +kernel)⟩
theorem gf_Sq_21 (S : CallFix p m c cc nL s args zT RSq) (r : zr G s ws H) (q0 : Nat) {fs : List Value} (he : ws[q0]? = some (a, .inr (4, fs))) {v : Value} (hv : fs[0]? = some v) (hdg : decode cc pc = .ok (.getfield 21, 3)) (kk : W p l e R s m args below meth c H locs cells slots Q (F0 m (pc + 3) ls (v :: rest))) : W p l e R s m args below meth c H locs cells slots Q (F0 m pc ls (.ref a :: rest)) := z_get 0 S (uz inSq) rfl (by decide) rfl (zin (List.mem_of_getElem? (i := 147) (by decide +kernel)) rfl) r q0 he hv hdg kk
theorem gf_Sq_40 (S : CallFix p m c cc nL s args zT RSq) (r : zr G s ws H) (q0 : Nat) {fs : List Value} (he : ws[q0]? = some (a, .inr (2, fs))) {v : Value} (hv : fs[2]? = some v) (hdg : decode cc pc = .ok (.getfield 40, 3)) (kk : W p l e R s m args below meth c H locs cells slots Q (F0 m (pc + 3) ls (v :: rest))) : W p l e R s m args below meth c H locs cells slots Q (F0 m pc ls (.ref a :: rest)) := z_get 2 S (uz inGr) rfl (by decide) rfl (zin (List.mem_of_getElem? (i := 72) (by decide +kernel)) rfl) r q0 he hv hdg kk
set_option maxRecDepth 40000 in
theorem mv_Sq_46 : zV RSq 46 yGr_everyName cGr_everyName 1 (some .int) 0 := ⟨⟨(zin (List.mem_of_getElem? (i := 396) (by decide +kernel)) rfl), (zin (List.mem_of_getElem? (i := 397) (by decide +kernel)) rfl), (zin (List.mem_of_getElem? (i := 398) (by decide +kernel)) rfl), (zin (List.mem_of_getElem? (i := 41) (by decide +kernel)) rfl), (zin (List.mem_of_getElem? (i := 399) rfl) rfl)⟩, (by decide), (by decide), (by decide +kernel)⟩
theorem pf_Sq_50 (S : CallFix p m c cc nL s args zT RSq) (w : zw G A s ws H locs) (q0 : Nat) {fs : List Value} (he : ws[q0]? = some (a, .inr (4, fs))) {v : Value} (hn : narrow (tySq 10) v = v) (hfit : fits (tySq 10) v = true) (hl : 10 < fs.length) (hw : ws.set q0 (a, .inr (4, fs.set 10 v)) = ws') (hdg : decode cc pc = .ok (.putfield 50, 3)) (kk : ∀ (H1 : Heap) (locs1 : List Loc), zw G A s ws' H1 locs1 → W p l e R s m args below meth c H1 locs1 cells slots Q (F0 m (pc + 3) ls rest)) : W p l e R s m args below meth c H locs cells slots Q (F0 m pc ls (v :: .ref a :: rest)) := z_put 10 S (uz inSq) tySq tySq_ok nmSq rfl (by decide) rfl (zin (List.mem_of_getElem? (i := 165) (by decide +kernel)) rfl) rfl w q0 he hn hfit hl hw hdg kk
theorem gf_Sq_30 (S : CallFix p m c cc nL s args zT RSq) (r : zr G s ws H) (q0 : Nat) {fs : List Value} (he : ws[q0]? = some (a, .inr (4, fs))) {v : Value} (hv : fs[1]? = some v) (hdg : decode cc pc = .ok (.getfield 30, 3)) (kk : W p l e R s m args below meth c H locs cells slots Q (F0 m (pc + 3) ls (v :: rest))) : W p l e R s m args below meth c H locs cells slots Q (F0 m pc ls (.ref a :: rest)) := z_get 1 S (uz inSq) rfl (by decide) rfl (zin (List.mem_of_getElem? (i := 148) (by decide +kernel)) rfl) r q0 he hv hdg kk
set_option maxRecDepth 40000 in
theorem mv_Sq_54 : zV RSq 54 ySe_forget cSe_forget 1 none 0 := ⟨⟨(zin (List.mem_of_getElem? (i := 273) (by decide +kernel)) rfl), (zin (List.mem_of_getElem? (i := 274) (by decide +kernel)) rfl), (zin (List.mem_of_getElem? (i := 275) (by decide +kernel)) rfl), (zin (List.mem_of_getElem? (i := 44) (by decide +kernel)) rfl), (zin (List.mem_of_getElem? (i := 276) rfl) rfl)⟩, (by decide), (by decide), (by decide +kernel)⟩
theorem gf_Sq_50 (S : CallFix p m c cc nL s args zT RSq) (r : zr G s ws H) (q0 : Nat) {fs : List Value} (he : ws[q0]? = some (a, .inr (4, fs))) {v : Value} (hv : fs[10]? = some v) (hdg : decode cc pc = .ok (.getfield 50, 3)) (kk : W p l e R s m args below meth c H locs cells slots Q (F0 m (pc + 3) ls (v :: rest))) : W p l e R s m args below meth c H locs cells slots Q (F0 m pc ls (.ref a :: rest)) := z_get 10 S (uz inSq) rfl (by decide) rfl (zin (List.mem_of_getElem? (i := 165) (by decide +kernel)) rfl) r q0 he hv hdg kk
theorem pf_Sq_57 (S : CallFix p m c cc nL s args zT RSq) (w : zw G A s ws H locs) (q0 : Nat) {fs : List Value} (he : ws[q0]? = some (a, .inr (4, fs))) {v : Value} (hn : narrow (tySq 5) v = v) (hfit : fits (tySq 5) v = true) (hl : 5 < fs.length) (hw : ws.set q0 (a, .inr (4, fs.set 5 v)) = ws') (hdg : decode cc pc = .ok (.putfield 57, 3)) (kk : ∀ (H1 : Heap) (locs1 : List Loc), zw G A s ws' H1 locs1 → W p l e R s m args below meth c H1 locs1 cells slots Q (F0 m (pc + 3) ls rest)) : W p l e R s m args below meth c H locs cells slots Q (F0 m pc ls (v :: .ref a :: rest)) := z_put 5 S (uz inSq) tySq tySq_ok nmSq rfl (by decide) rfl (zin (List.mem_of_getElem? (i := 155) (by decide +kernel)) rfl) rfl w q0 he hn hfit hl hw hdg kk
theorem gf_Sq_15 (S : CallFix p m c cc nL s args zT RSq) (r : zr G s ws H) (q0 : Nat) {fs : List Value} (he : ws[q0]? = some (a, .inr (4, fs))) {v : Value} (hv : fs[3]? = some v) (hdg : decode cc pc = .ok (.getfield 15, 3)) (kk : W p l e R s m args below meth c H locs cells slots Q (F0 m (pc + 3) ls (v :: rest))) : W p l e R s m args below meth c H locs cells slots Q (F0 m pc ls (.ref a :: rest)) := z_get 3 S (uz inSq) rfl (by decide) rfl (zin (List.mem_of_getElem? (i := 151) (by decide +kernel)) rfl) r q0 he hv hdg kk
set_option maxRecDepth 40000 in
theorem mv_Sq_60 : zV RSq 60 ySq_takeAllOut cSq_takeAllOut 5 none 0 := ⟨⟨(zin (List.mem_of_getElem? (i := 470) (by decide +kernel)) rfl), (zin (List.mem_of_getElem? (i := 472) (by decide +kernel)) rfl), (zin (List.mem_of_getElem? (i := 9) (by decide +kernel)) rfl), (zin (List.mem_of_getElem? (i := 43) (by decide +kernel)) rfl), (zin (List.mem_of_getElem? (i := 473) rfl) rfl)⟩, (by decide), (by decide), (by decide +kernel)⟩
theorem gf_Sq_57 (S : CallFix p m c cc nL s args zT RSq) (r : zr G s ws H) (q0 : Nat) {fs : List Value} (he : ws[q0]? = some (a, .inr (4, fs))) {v : Value} (hv : fs[5]? = some v) (hdg : decode cc pc = .ok (.getfield 57, 3)) (kk : W p l e R s m args below meth c H locs cells slots Q (F0 m (pc + 3) ls (v :: rest))) : W p l e R s m args below meth c H locs cells slots Q (F0 m pc ls (.ref a :: rest)) := z_get 5 S (uz inSq) rfl (by decide) rfl (zin (List.mem_of_getElem? (i := 155) (by decide +kernel)) rfl) r q0 he hv hdg kk
set_option maxRecDepth 40000 in
theorem mv_Sq_63 : zV RSq 63 ySe_find cSe_find 2 none 0 := ⟨⟨(zin (List.mem_of_getElem? (i := 404) (by decide +kernel)) rfl), (zin (List.mem_of_getElem? (i := 405) (by decide +kernel)) rfl), (zin (List.mem_of_getElem? (i := 406) (by decide +kernel)) rfl), (zin (List.mem_of_getElem? (i := 44) (by decide +kernel)) rfl), (zin (List.mem_of_getElem? (i := 407) rfl) rfl)⟩, (by decide), (by decide), (by decide +kernel)⟩
set_option maxRecDepth 40000 in
theorem mv_Sq_66 : zV RSq 66 ySq_chosenAt cSq_chosenAt 3 (some .int) 2 := ⟨⟨(zin (List.mem_of_getElem? (i := 450) (by decide +kernel)) rfl), (zin (List.mem_of_getElem? (i := 452) (by decide +kernel)) rfl), (zin (List.mem_of_getElem? (i := 6) (by decide +kernel)) rfl), (zin (List.mem_of_getElem? (i := 43) (by decide +kernel)) rfl), (zin (List.mem_of_getElem? (i := 453) rfl) rfl)⟩, (by decide), (by decide), (by decide +kernel)⟩
theorem gf_Sq_70 (S : CallFix p m c cc nL s args zT RSq) (r : zr G s ws H) (q0 : Nat) {fs : List Value} (he : ws[q0]? = some (a, .inr (3, fs))) {v : Value} (hv : fs[1]? = some v) (hdg : decode cc pc = .ok (.getfield 70, 3)) (kk : W p l e R s m args below meth c H locs cells slots Q (F0 m (pc + 3) ls (v :: rest))) : W p l e R s m args below meth c H locs cells slots Q (F0 m pc ls (.ref a :: rest)) := z_get 1 S (uz inSe) rfl (by decide) rfl (zin (List.mem_of_getElem? (i := 129) (by decide +kernel)) rfl) r q0 he hv hdg kk
set_option maxRecDepth 40000 in
theorem mv_Sq_73 : zV RSq 73 ySq_cheapest cSq_cheapest 6 (some .int) 1 := ⟨⟨(zin (List.mem_of_getElem? (i := 454) (by decide +kernel)) rfl), (zin (List.mem_of_getElem? (i := 456) (by decide +kernel)) rfl), (zin (List.mem_of_getElem? (i := 7) (by decide +kernel)) rfl), (zin (List.mem_of_getElem? (i := 43) (by decide +kernel)) rfl), (zin (List.mem_of_getElem? (i := 457) rfl) rfl)⟩, (by decide), (by decide), (by decide +kernel)⟩
theorem kc_Sq_79 : Cond.constant RSq 79 (nI 2147483647) ∈ zT := (zin (List.mem_of_getElem? (i := 458) (by decide +kernel)) rfl)
set_option maxRecDepth 40000 in
theorem mv_Sq_80 : zV RSq 80 ySq_costOf cSq_costOf 4 (some .int) 2 := ⟨⟨(zin (List.mem_of_getElem? (i := 459) (by decide +kernel)) rfl), (zin (List.mem_of_getElem? (i := 461) (by decide +kernel)) rfl), (zin (List.mem_of_getElem? (i := 8) (by decide +kernel)) rfl), (zin (List.mem_of_getElem? (i := 43) (by decide +kernel)) rfl), (zin (List.mem_of_getElem? (i := 462) rfl) rfl)⟩, (by decide), (by decide), (by decide +kernel)⟩
set_option maxRecDepth 40000 in
theorem mv_Sq_83 : zV RSq 83 yGr_bagOf cGr_bagOf 3 (some .int) 2 := ⟨⟨(zin (List.mem_of_getElem? (i := 463) (by decide +kernel)) rfl), (zin (List.mem_of_getElem? (i := 422) (by decide +kernel)) rfl), (zin (List.mem_of_getElem? (i := 423) (by decide +kernel)) rfl), (zin (List.mem_of_getElem? (i := 41) (by decide +kernel)) rfl), (zin (List.mem_of_getElem? (i := 424) rfl) rfl)⟩, (by decide), (by decide), (by decide +kernel)⟩
set_option maxRecDepth 40000 in
theorem mv_Sq_86 : zSt RSq 86 yJi_bitCount cJi_bitCount 1 (some .int) 1 := ⟨⟨(zin (List.mem_of_getElem? (i := 464) (by decide +kernel)) rfl), (zin (List.mem_of_getElem? (i := 294) (by decide +kernel)) rfl), (zin (List.mem_of_getElem? (i := 48) (by decide +kernel)) rfl), (zin (List.mem_of_getElem? (i := 295) rfl) rfl)⟩, (by decide), (by decide), (by decide +kernel)⟩
set_option maxRecDepth 40000 in
theorem mv_Sq_89 : zV RSq 89 yGr_fillOf cGr_fillOf 5 (some .int) 2 := ⟨⟨(zin (List.mem_of_getElem? (i := 465) (by decide +kernel)) rfl), (zin (List.mem_of_getElem? (i := 466) (by decide +kernel)) rfl), (zin (List.mem_of_getElem? (i := 467) (by decide +kernel)) rfl), (zin (List.mem_of_getElem? (i := 41) (by decide +kernel)) rfl), (zin (List.mem_of_getElem? (i := 468) rfl) rfl)⟩, (by decide), (by decide), (by decide +kernel)⟩
set_option maxRecDepth 40000 in
theorem mv_Sq_92 : zV RSq 92 yGr_cellsOf cGr_cellsOf 4 (some .int) 1 := ⟨⟨(zin (List.mem_of_getElem? (i := 469) (by decide +kernel)) rfl), (zin (List.mem_of_getElem? (i := 414) (by decide +kernel)) rfl), (zin (List.mem_of_getElem? (i := 415) (by decide +kernel)) rfl), (zin (List.mem_of_getElem? (i := 41) (by decide +kernel)) rfl), (zin (List.mem_of_getElem? (i := 416) rfl) rfl)⟩, (by decide), (by decide), (by decide +kernel)⟩
theorem pf_Sq_95 (S : CallFix p m c cc nL s args zT RSq) (w : zw G A s ws H locs) (q0 : Nat) {fs : List Value} (he : ws[q0]? = some (a, .inr (4, fs))) {v : Value} (hn : narrow (tySq 6) v = v) (hfit : fits (tySq 6) v = true) (hl : 6 < fs.length) (hw : ws.set q0 (a, .inr (4, fs.set 6 v)) = ws') (hdg : decode cc pc = .ok (.putfield 95, 3)) (kk : ∀ (H1 : Heap) (locs1 : List Loc), zw G A s ws' H1 locs1 → W p l e R s m args below meth c H1 locs1 cells slots Q (F0 m (pc + 3) ls rest)) : W p l e R s m args below meth c H locs cells slots Q (F0 m pc ls (v :: .ref a :: rest)) := z_put 6 S (uz inSq) tySq tySq_ok nmSq rfl (by decide) rfl (zin (List.mem_of_getElem? (i := 157) (by decide +kernel)) rfl) rfl w q0 he hn hfit hl hw hdg kk
theorem pf_Sq_98 (S : CallFix p m c cc nL s args zT RSq) (w : zw G A s ws H locs) (q0 : Nat) {fs : List Value} (he : ws[q0]? = some (a, .inr (4, fs))) {v : Value} (hn : narrow (tySq 7) v = v) (hfit : fits (tySq 7) v = true) (hl : 7 < fs.length) (hw : ws.set q0 (a, .inr (4, fs.set 7 v)) = ws') (hdg : decode cc pc = .ok (.putfield 98, 3)) (kk : ∀ (H1 : Heap) (locs1 : List Loc), zw G A s ws' H1 locs1 → W p l e R s m args below meth c H1 locs1 cells slots Q (F0 m (pc + 3) ls rest)) : W p l e R s m args below meth c H locs cells slots Q (F0 m pc ls (v :: .ref a :: rest)) := z_put 7 S (uz inSq) tySq tySq_ok nmSq rfl (by decide) rfl (zin (List.mem_of_getElem? (i := 159) (by decide +kernel)) rfl) rfl w q0 he hn hfit hl hw hdg kk
theorem pf_Sq_101 (S : CallFix p m c cc nL s args zT RSq) (w : zw G A s ws H locs) (q0 : Nat) {fs : List Value} (he : ws[q0]? = some (a, .inr (4, fs))) {v : Value} (hn : narrow (tySq 8) v = v) (hfit : fits (tySq 8) v = true) (hl : 8 < fs.length) (hw : ws.set q0 (a, .inr (4, fs.set 8 v)) = ws') (hdg : decode cc pc = .ok (.putfield 101, 3)) (kk : ∀ (H1 : Heap) (locs1 : List Loc), zw G A s ws' H1 locs1 → W p l e R s m args below meth c H1 locs1 cells slots Q (F0 m (pc + 3) ls rest)) : W p l e R s m args below meth c H locs cells slots Q (F0 m pc ls (v :: .ref a :: rest)) := z_put 8 S (uz inSq) tySq tySq_ok nmSq rfl (by decide) rfl (zin (List.mem_of_getElem? (i := 161) (by decide +kernel)) rfl) rfl w q0 he hn hfit hl hw hdg kk
theorem pf_Sq_104 (S : CallFix p m c cc nL s args zT RSq) (w : zw G A s ws H locs) (q0 : Nat) {fs : List Value} (he : ws[q0]? = some (a, .inr (4, fs))) {v : Value} (hn : narrow (tySq 9) v = v) (hfit : fits (tySq 9) v = true) (hl : 9 < fs.length) (hw : ws.set q0 (a, .inr (4, fs.set 9 v)) = ws') (hdg : decode cc pc = .ok (.putfield 104, 3)) (kk : ∀ (H1 : Heap) (locs1 : List Loc), zw G A s ws' H1 locs1 → W p l e R s m args below meth c H1 locs1 cells slots Q (F0 m (pc + 3) ls rest)) : W p l e R s m args below meth c H locs cells slots Q (F0 m pc ls (v :: .ref a :: rest)) := z_put 9 S (uz inSq) tySq tySq_ok nmSq rfl (by decide) rfl (zin (List.mem_of_getElem? (i := 163) (by decide +kernel)) rfl) rfl w q0 he hn hfit hl hw hdg kk
theorem gf_Sq_18 (S : CallFix p m c cc nL s args zT RSq) (r : zr G s ws H) (q0 : Nat) {fs : List Value} (he : ws[q0]? = some (a, .inr (4, fs))) {v : Value} (hv : fs[4]? = some v) (hdg : decode cc pc = .ok (.getfield 18, 3)) (kk : W p l e R s m args below meth c H locs cells slots Q (F0 m (pc + 3) ls (v :: rest))) : W p l e R s m args below meth c H locs cells slots Q (F0 m pc ls (.ref a :: rest)) := z_get 4 S (uz inSq) rfl (by decide) rfl (zin (List.mem_of_getElem? (i := 153) (by decide +kernel)) rfl) r q0 he hv hdg kk
theorem gf_Sq_95 (S : CallFix p m c cc nL s args zT RSq) (r : zr G s ws H) (q0 : Nat) {fs : List Value} (he : ws[q0]? = some (a, .inr (4, fs))) {v : Value} (hv : fs[6]? = some v) (hdg : decode cc pc = .ok (.getfield 95, 3)) (kk : W p l e R s m args below meth c H locs cells slots Q (F0 m (pc + 3) ls (v :: rest))) : W p l e R s m args below meth c H locs cells slots Q (F0 m pc ls (.ref a :: rest)) := z_get 6 S (uz inSq) rfl (by decide) rfl (zin (List.mem_of_getElem? (i := 157) (by decide +kernel)) rfl) r q0 he hv hdg kk
set_option maxRecDepth 40000 in
theorem mv_Sq_107 : zSt RSq 107 yJm_max cJm_max 2 (some .int) 2 := ⟨⟨(zin (List.mem_of_getElem? (i := 474) (by decide +kernel)) rfl), (zin (List.mem_of_getElem? (i := 432) (by decide +kernel)) rfl), (zin (List.mem_of_getElem? (i := 50) (by decide +kernel)) rfl), (zin (List.mem_of_getElem? (i := 433) rfl) rfl)⟩, (by decide), (by decide), (by decide +kernel)⟩
theorem gf_Sq_98 (S : CallFix p m c cc nL s args zT RSq) (r : zr G s ws H) (q0 : Nat) {fs : List Value} (he : ws[q0]? = some (a, .inr (4, fs))) {v : Value} (hv : fs[7]? = some v) (hdg : decode cc pc = .ok (.getfield 98, 3)) (kk : W p l e R s m args below meth c H locs cells slots Q (F0 m (pc + 3) ls (v :: rest))) : W p l e R s m args below meth c H locs cells slots Q (F0 m pc ls (.ref a :: rest)) := z_get 7 S (uz inSq) rfl (by decide) rfl (zin (List.mem_of_getElem? (i := 159) (by decide +kernel)) rfl) r q0 he hv hdg kk
theorem gf_Sq_101 (S : CallFix p m c cc nL s args zT RSq) (r : zr G s ws H) (q0 : Nat) {fs : List Value} (he : ws[q0]? = some (a, .inr (4, fs))) {v : Value} (hv : fs[8]? = some v) (hdg : decode cc pc = .ok (.getfield 101, 3)) (kk : W p l e R s m args below meth c H locs cells slots Q (F0 m (pc + 3) ls (v :: rest))) : W p l e R s m args below meth c H locs cells slots Q (F0 m pc ls (.ref a :: rest)) := z_get 8 S (uz inSq) rfl (by decide) rfl (zin (List.mem_of_getElem? (i := 161) (by decide +kernel)) rfl) r q0 he hv hdg kk
theorem gf_Sq_104 (S : CallFix p m c cc nL s args zT RSq) (r : zr G s ws H) (q0 : Nat) {fs : List Value} (he : ws[q0]? = some (a, .inr (4, fs))) {v : Value} (hv : fs[9]? = some v) (hdg : decode cc pc = .ok (.getfield 104, 3)) (kk : W p l e R s m args below meth c H locs cells slots Q (F0 m (pc + 3) ls (v :: rest))) : W p l e R s m args below meth c H locs cells slots Q (F0 m pc ls (.ref a :: rest)) := z_get 9 S (uz inSq) rfl (by decide) rfl (zin (List.mem_of_getElem? (i := 163) (by decide +kernel)) rfl) r q0 he hv hdg kk
theorem pf_We_9 (S : CallFix p m c cc nL s args zT RWe) (hnm : meth.name = "<init>") (w : zw G A s ws H locs) (q0 : Nat) {fs : List Value} (he : ws[q0]? = some (a, .inr (5, fs))) {v : Value} (hn : narrow (tyWe 2) v = v) (hfit : fits (tyWe 2) v = true) (hl : 2 < fs.length) (hw : ws.set q0 (a, .inr (5, fs.set 2 v)) = ws') (hdg : decode cc pc = .ok (.putfield 9, 3)) (kk : ∀ (H1 : Heap) (locs1 : List Loc), zw G A s ws' H1 locs1 → W p l e R s m args below meth c H1 locs1 cells slots Q (F0 m (pc + 3) ls rest)) : W p l e R s m args below meth c H locs cells slots Q (F0 m pc ls (v :: .ref a :: rest)) := z_putF 2 S (uz inWe) tyWe tyWe_ok nmWe rfl (by decide) rfl (zin (List.mem_of_getElem? (i := 198) (by decide +kernel)) rfl) rfl rfl hnm w q0 he hn hfit hl hw hdg kk
theorem pf_We_15 (S : CallFix p m c cc nL s args zT RWe) (hnm : meth.name = "<init>") (w : zw G A s ws H locs) (q0 : Nat) {fs : List Value} (he : ws[q0]? = some (a, .inr (5, fs))) {v : Value} (hn : narrow (tyWe 3) v = v) (hfit : fits (tyWe 3) v = true) (hl : 3 < fs.length) (hw : ws.set q0 (a, .inr (5, fs.set 3 v)) = ws') (hdg : decode cc pc = .ok (.putfield 15, 3)) (kk : ∀ (H1 : Heap) (locs1 : List Loc), zw G A s ws' H1 locs1 → W p l e R s m args below meth c H1 locs1 cells slots Q (F0 m (pc + 3) ls rest)) : W p l e R s m args below meth c H locs cells slots Q (F0 m pc ls (v :: .ref a :: rest)) := z_putF 3 S (uz inWe) tyWe tyWe_ok nmWe rfl (by decide) rfl (zin (List.mem_of_getElem? (i := 200) (by decide +kernel)) rfl) rfl rfl hnm w q0 he hn hfit hl hw hdg kk
theorem pf_We_18 (S : CallFix p m c cc nL s args zT RWe) (hnm : meth.name = "<init>") (w : zw G A s ws H locs) (q0 : Nat) {fs : List Value} (he : ws[q0]? = some (a, .inr (5, fs))) {v : Value} (hn : narrow (tyWe 4) v = v) (hfit : fits (tyWe 4) v = true) (hl : 4 < fs.length) (hw : ws.set q0 (a, .inr (5, fs.set 4 v)) = ws') (hdg : decode cc pc = .ok (.putfield 18, 3)) (kk : ∀ (H1 : Heap) (locs1 : List Loc), zw G A s ws' H1 locs1 → W p l e R s m args below meth c H1 locs1 cells slots Q (F0 m (pc + 3) ls rest)) : W p l e R s m args below meth c H locs cells slots Q (F0 m pc ls (v :: .ref a :: rest)) := z_putF 4 S (uz inWe) tyWe tyWe_ok nmWe rfl (by decide) rfl (zin (List.mem_of_getElem? (i := 201) (by decide +kernel)) rfl) rfl rfl hnm w q0 he hn hfit hl hw hdg kk
theorem pf_We_22 (S : CallFix p m c cc nL s args zT RWe) (w : zw G A s ws H locs) (q0 : Nat) {fs : List Value} (he : ws[q0]? = some (a, .inr (5, fs))) {v : Value} (hn : narrow (tyWe 5) v = v) (hfit : fits (tyWe 5) v = true) (hl : 5 < fs.length) (hw : ws.set q0 (a, .inr (5, fs.set 5 v)) = ws') (hdg : decode cc pc = .ok (.putfield 22, 3)) (kk : ∀ (H1 : Heap) (locs1 : List Loc), zw G A s ws' H1 locs1 → W p l e R s m args below meth c H1 locs1 cells slots Q (F0 m (pc + 3) ls rest)) : W p l e R s m args below meth c H locs cells slots Q (F0 m pc ls (v :: .ref a :: rest)) := z_put 5 S (uz inWe) tyWe tyWe_ok nmWe rfl (by decide) rfl (zin (List.mem_of_getElem? (i := 202) (by decide +kernel)) rfl) rfl w q0 he hn hfit hl hw hdg kk
theorem pf_We_25 (S : CallFix p m c cc nL s args zT RWe) (hnm : meth.name = "<init>") (w : zw G A s ws H locs) (q0 : Nat) {fs : List Value} (he : ws[q0]? = some (a, .inr (5, fs))) {v : Value} (hn : narrow (tyWe 6) v = v) (hfit : fits (tyWe 6) v = true) (hl : 6 < fs.length) (hw : ws.set q0 (a, .inr (5, fs.set 6 v)) = ws') (hdg : decode cc pc = .ok (.putfield 25, 3)) (kk : ∀ (H1 : Heap) (locs1 : List Loc), zw G A s ws' H1 locs1 → W p l e R s m args below meth c H1 locs1 cells slots Q (F0 m (pc + 3) ls rest)) : W p l e R s m args below meth c H locs cells slots Q (F0 m pc ls (v :: .ref a :: rest)) := z_putF 6 S (uz inWe) tyWe tyWe_ok nmWe rfl (by decide) rfl (zin (List.mem_of_getElem? (i := 203) (by decide +kernel)) rfl) rfl rfl hnm w q0 he hn hfit hl hw hdg kk
theorem pf_We_28 (S : CallFix p m c cc nL s args zT RWe) (hnm : meth.name = "<init>") (w : zw G A s ws H locs) (q0 : Nat) {fs : List Value} (he : ws[q0]? = some (a, .inr (5, fs))) {v : Value} (hn : narrow (tyWe 7) v = v) (hfit : fits (tyWe 7) v = true) (hl : 7 < fs.length) (hw : ws.set q0 (a, .inr (5, fs.set 7 v)) = ws') (hdg : decode cc pc = .ok (.putfield 28, 3)) (kk : ∀ (H1 : Heap) (locs1 : List Loc), zw G A s ws' H1 locs1 → W p l e R s m args below meth c H1 locs1 cells slots Q (F0 m (pc + 3) ls rest)) : W p l e R s m args below meth c H locs cells slots Q (F0 m pc ls (v :: .ref a :: rest)) := z_putF 7 S (uz inWe) tyWe tyWe_ok nmWe rfl (by decide) rfl (zin (List.mem_of_getElem? (i := 205) (by decide +kernel)) rfl) rfl rfl hnm w q0 he hn hfit hl hw hdg kk
theorem pf_We_31 (S : CallFix p m c cc nL s args zT RWe) (hnm : meth.name = "<init>") (w : zw G A s ws H locs) (q0 : Nat) {fs : List Value} (he : ws[q0]? = some (a, .inr (5, fs))) {v : Value} (hn : narrow (tyWe 0) v = v) (hfit : fits (tyWe 0) v = true) (hl : 0 < fs.length) (hw : ws.set q0 (a, .inr (5, fs.set 0 v)) = ws') (hdg : decode cc pc = .ok (.putfield 31, 3)) (kk : ∀ (H1 : Heap) (locs1 : List Loc), zw G A s ws' H1 locs1 → W p l e R s m args below meth c H1 locs1 cells slots Q (F0 m (pc + 3) ls rest)) : W p l e R s m args below meth c H locs cells slots Q (F0 m pc ls (v :: .ref a :: rest)) := z_putF 0 S (uz inWe) tyWe tyWe_ok nmWe rfl (by decide) rfl (zin (List.mem_of_getElem? (i := 196) (by decide +kernel)) rfl) rfl rfl hnm w q0 he hn hfit hl hw hdg kk
theorem pf_We_35 (S : CallFix p m c cc nL s args zT RWe) (hnm : meth.name = "<init>") (w : zw G A s ws H locs) (q0 : Nat) {fs : List Value} (he : ws[q0]? = some (a, .inr (5, fs))) {v : Value} (hn : narrow (tyWe 1) v = v) (hfit : fits (tyWe 1) v = true) (hl : 1 < fs.length) (hw : ws.set q0 (a, .inr (5, fs.set 1 v)) = ws') (hdg : decode cc pc = .ok (.putfield 35, 3)) (kk : ∀ (H1 : Heap) (locs1 : List Loc), zw G A s ws' H1 locs1 → W p l e R s m args below meth c H1 locs1 cells slots Q (F0 m (pc + 3) ls rest)) : W p l e R s m args below meth c H locs cells slots Q (F0 m pc ls (v :: .ref a :: rest)) := z_putF 1 S (uz inWe) tyWe tyWe_ok nmWe rfl (by decide) rfl (zin (List.mem_of_getElem? (i := 197) (by decide +kernel)) rfl) rfl rfl hnm w q0 he hn hfit hl hw hdg kk
theorem gf_We_9 (S : CallFix p m c cc nL s args zT RWe) (r : zr G s ws H) (q0 : Nat) {fs : List Value} (he : ws[q0]? = some (a, .inr (5, fs))) {v : Value} (hv : fs[2]? = some v) (hdg : decode cc pc = .ok (.getfield 9, 3)) (kk : W p l e R s m args below meth c H locs cells slots Q (F0 m (pc + 3) ls (v :: rest))) : W p l e R s m args below meth c H locs cells slots Q (F0 m pc ls (.ref a :: rest)) := z_get 2 S (uz inWe) rfl (by decide) rfl (zin (List.mem_of_getElem? (i := 198) (by decide +kernel)) rfl) r q0 he hv hdg kk
set_option maxRecDepth 40000 in
theorem mv_We_39 : zSt RWe 39 yJa_fill_II cJa_fill_II 4 none 2 := ⟨⟨(zin (List.mem_of_getElem? (i := 195) (by decide +kernel)) rfl), (zin (List.mem_of_getElem? (i := 145) (by decide +kernel)) rfl), (zin (List.mem_of_getElem? (i := 45) (by decide +kernel)) rfl), (zin (List.mem_of_getElem? (i := 146) rfl) rfl)⟩, (by decide), (by decide), (by decide +kernel)⟩
theorem pf_We_45 (S : CallFix p m c cc nL s args zT RWe) (w : zw G A s ws H locs) (q0 : Nat) {fs : List Value} (he : ws[q0]? = some (a, .inr (5, fs))) {v : Value} (hn : narrow (tyWe 13) v = v) (hfit : fits (tyWe 13) v = true) (hl : 13 < fs.length) (hw : ws.set q0 (a, .inr (5, fs.set 13 v)) = ws') (hdg : decode cc pc = .ok (.putfield 45, 3)) (kk : ∀ (H1 : Heap) (locs1 : List Loc), zw G A s ws' H1 locs1 → W p l e R s m args below meth c H1 locs1 cells slots Q (F0 m (pc + 3) ls rest)) : W p l e R s m args below meth c H locs cells slots Q (F0 m pc ls (v :: .ref a :: rest)) := z_put 13 S (uz inWe) tyWe tyWe_ok nmWe rfl (by decide) rfl (zin (List.mem_of_getElem? (i := 217) (by decide +kernel)) rfl) rfl w q0 he hn hfit hl hw hdg kk
theorem gf_We_31 (S : CallFix p m c cc nL s args zT RWe) (r : zr G s ws H) (q0 : Nat) {fs : List Value} (he : ws[q0]? = some (a, .inr (5, fs))) {v : Value} (hv : fs[0]? = some v) (hdg : decode cc pc = .ok (.getfield 31, 3)) (kk : W p l e R s m args below meth c H locs cells slots Q (F0 m (pc + 3) ls (v :: rest))) : W p l e R s m args below meth c H locs cells slots Q (F0 m pc ls (.ref a :: rest)) := z_get 0 S (uz inWe) rfl (by decide) rfl (zin (List.mem_of_getElem? (i := 196) (by decide +kernel)) rfl) r q0 he hv hdg kk
theorem gf_We_49 (S : CallFix p m c cc nL s args zT RWe) (r : zr G s ws H) (q0 : Nat) {fs : List Value} (he : ws[q0]? = some (a, .inr (2, fs))) {v : Value} (hv : fs[2]? = some v) (hdg : decode cc pc = .ok (.getfield 49, 3)) (kk : W p l e R s m args below meth c H locs cells slots Q (F0 m (pc + 3) ls (v :: rest))) : W p l e R s m args below meth c H locs cells slots Q (F0 m pc ls (.ref a :: rest)) := z_get 2 S (uz inGr) rfl (by decide) rfl (zin (List.mem_of_getElem? (i := 74) (by decide +kernel)) rfl) r q0 he hv hdg kk
set_option maxRecDepth 40000 in
theorem mv_We_55 : zV RWe 55 yGr_valueIn cGr_valueIn 5 (some .int) 2 := ⟨⟨(zin (List.mem_of_getElem? (i := 616) (by decide +kernel)) rfl), (zin (List.mem_of_getElem? (i := 578) (by decide +kernel)) rfl), (zin (List.mem_of_getElem? (i := 579) (by decide +kernel)) rfl), (zin (List.mem_of_getElem? (i := 41) (by decide +kernel)) rfl), (zin (List.mem_of_getElem? (i := 580) rfl) rfl)⟩, (by decide), (by decide), (by decide +kernel)⟩
theorem gf_We_15 (S : CallFix p m c cc nL s args zT RWe) (r : zr G s ws H) (q0 : Nat) {fs : List Value} (he : ws[q0]? = some (a, .inr (5, fs))) {v : Value} (hv : fs[3]? = some v) (hdg : decode cc pc = .ok (.getfield 15, 3)) (kk : W p l e R s m args below meth c H locs cells slots Q (F0 m (pc + 3) ls (v :: rest))) : W p l e R s m args below meth c H locs cells slots Q (F0 m pc ls (.ref a :: rest)) := z_get 3 S (uz inWe) rfl (by decide) rfl (zin (List.mem_of_getElem? (i := 200) (by decide +kernel)) rfl) r q0 he hv hdg kk
theorem gf_We_35 (S : CallFix p m c cc nL s args zT RWe) (r : zr G s ws H) (q0 : Nat) {fs : List Value} (he : ws[q0]? = some (a, .inr (5, fs))) {v : Value} (hv : fs[1]? = some v) (hdg : decode cc pc = .ok (.getfield 35, 3)) (kk : W p l e R s m args below meth c H locs cells slots Q (F0 m (pc + 3) ls (v :: rest))) : W p l e R s m args below meth c H locs cells slots Q (F0 m pc ls (.ref a :: rest)) := z_get 1 S (uz inWe) rfl (by decide) rfl (zin (List.mem_of_getElem? (i := 197) (by decide +kernel)) rfl) r q0 he hv hdg kk
set_option maxRecDepth 40000 in
theorem mv_We_59 : zV RWe 59 yFs_productAt cFs_productAt 6 (some .long) 1 := ⟨⟨(zin (List.mem_of_getElem? (i := 617) (by decide +kernel)) rfl), (zin (List.mem_of_getElem? (i := 618) (by decide +kernel)) rfl), (zin (List.mem_of_getElem? (i := 619) (by decide +kernel)) rfl), (zin (List.mem_of_getElem? (i := 42) (by decide +kernel)) rfl), (zin (List.mem_of_getElem? (i := 620) rfl) rfl)⟩, (by decide), (by decide), (by decide +kernel)⟩
theorem gf_We_45 (S : CallFix p m c cc nL s args zT RWe) (r : zr G s ws H) (q0 : Nat) {fs : List Value} (he : ws[q0]? = some (a, .inr (5, fs))) {v : Value} (hv : fs[13]? = some v) (hdg : decode cc pc = .ok (.getfield 45, 3)) (kk : W p l e R s m args below meth c H locs cells slots Q (F0 m (pc + 3) ls (v :: rest))) : W p l e R s m args below meth c H locs cells slots Q (F0 m pc ls (.ref a :: rest)) := z_get 13 S (uz inWe) rfl (by decide) rfl (zin (List.mem_of_getElem? (i := 217) (by decide +kernel)) rfl) r q0 he hv hdg kk
theorem gf_We_22 (S : CallFix p m c cc nL s args zT RWe) (r : zr G s ws H) (q0 : Nat) {fs : List Value} (he : ws[q0]? = some (a, .inr (5, fs))) {v : Value} (hv : fs[5]? = some v) (hdg : decode cc pc = .ok (.getfield 22, 3)) (kk : W p l e R s m args below meth c H locs cells slots Q (F0 m (pc + 3) ls (v :: rest))) : W p l e R s m args below meth c H locs cells slots Q (F0 m pc ls (.ref a :: rest)) := z_get 5 S (uz inWe) rfl (by decide) rfl (zin (List.mem_of_getElem? (i := 202) (by decide +kernel)) rfl) r q0 he hv hdg kk
theorem gf_We_65 (S : CallFix p m c cc nL s args zT RWe) (r : zr G s ws H) (q0 : Nat) {fs : List Value} (he : ws[q0]? = some (a, .inr (2, fs))) {v : Value} (hv : fs[3]? = some v) (hdg : decode cc pc = .ok (.getfield 65, 3)) (kk : W p l e R s m args below meth c H locs cells slots Q (F0 m (pc + 3) ls (v :: rest))) : W p l e R s m args below meth c H locs cells slots Q (F0 m pc ls (.ref a :: rest)) := z_get 3 S (uz inGr) rfl (by decide) rfl (zin (List.mem_of_getElem? (i := 78) (by decide +kernel)) rfl) r q0 he hv hdg kk
set_option maxRecDepth 40000 in
theorem mv_We_68 : zSt RWe 68 yJa_fill_JJ cJa_fill_JJ 5 none 2 := ⟨⟨(zin (List.mem_of_getElem? (i := 513) (by decide +kernel)) rfl), (zin (List.mem_of_getElem? (i := 514) (by decide +kernel)) rfl), (zin (List.mem_of_getElem? (i := 45) (by decide +kernel)) rfl), (zin (List.mem_of_getElem? (i := 515) rfl) rfl)⟩, (by decide), (by decide), (by decide +kernel)⟩
theorem pf_We_71 (S : CallFix p m c cc nL s args zT RWe) (w : zw G A s ws H locs) (q0 : Nat) {fs : List Value} (he : ws[q0]? = some (a, .inr (5, fs))) {v : Value} (hn : narrow (tyWe 8) v = v) (hfit : fits (tyWe 8) v = true) (hl : 8 < fs.length) (hw : ws.set q0 (a, .inr (5, fs.set 8 v)) = ws') (hdg : decode cc pc = .ok (.putfield 71, 3)) (kk : ∀ (H1 : Heap) (locs1 : List Loc), zw G A s ws' H1 locs1 → W p l e R s m args below meth c H1 locs1 cells slots Q (F0 m (pc + 3) ls rest)) : W p l e R s m args below meth c H locs cells slots Q (F0 m pc ls (v :: .ref a :: rest)) := z_put 8 S (uz inWe) tyWe tyWe_ok nmWe rfl (by decide) rfl (zin (List.mem_of_getElem? (i := 207) (by decide +kernel)) rfl) rfl w q0 he hn hfit hl hw hdg kk
theorem pf_We_74 (S : CallFix p m c cc nL s args zT RWe) (w : zw G A s ws H locs) (q0 : Nat) {fs : List Value} (he : ws[q0]? = some (a, .inr (5, fs))) {v : Value} (hn : narrow (tyWe 9) v = v) (hfit : fits (tyWe 9) v = true) (hl : 9 < fs.length) (hw : ws.set q0 (a, .inr (5, fs.set 9 v)) = ws') (hdg : decode cc pc = .ok (.putfield 74, 3)) (kk : ∀ (H1 : Heap) (locs1 : List Loc), zw G A s ws' H1 locs1 → W p l e R s m args below meth c H1 locs1 cells slots Q (F0 m (pc + 3) ls rest)) : W p l e R s m args below meth c H locs cells slots Q (F0 m pc ls (v :: .ref a :: rest)) := z_put 9 S (uz inWe) tyWe tyWe_ok nmWe rfl (by decide) rfl (zin (List.mem_of_getElem? (i := 209) (by decide +kernel)) rfl) rfl w q0 he hn hfit hl hw hdg kk
theorem pf_We_77 (S : CallFix p m c cc nL s args zT RWe) (w : zw G A s ws H locs) (q0 : Nat) {fs : List Value} (he : ws[q0]? = some (a, .inr (5, fs))) {v : Value} (hn : narrow (tyWe 10) v = v) (hfit : fits (tyWe 10) v = true) (hl : 10 < fs.length) (hw : ws.set q0 (a, .inr (5, fs.set 10 v)) = ws') (hdg : decode cc pc = .ok (.putfield 77, 3)) (kk : ∀ (H1 : Heap) (locs1 : List Loc), zw G A s ws' H1 locs1 → W p l e R s m args below meth c H1 locs1 cells slots Q (F0 m (pc + 3) ls rest)) : W p l e R s m args below meth c H locs cells slots Q (F0 m pc ls (v :: .ref a :: rest)) := z_put 10 S (uz inWe) tyWe tyWe_ok nmWe rfl (by decide) rfl (zin (List.mem_of_getElem? (i := 211) (by decide +kernel)) rfl) rfl w q0 he hn hfit hl hw hdg kk
set_option maxRecDepth 40000 in
theorem mv_We_81 : zV RWe 81 yFs_productWithoutNames cFs_productWithoutNames 4 (some .long) 0 := ⟨⟨(zin (List.mem_of_getElem? (i := 516) (by decide +kernel)) rfl), (zin (List.mem_of_getElem? (i := 517) (by decide +kernel)) rfl), (zin (List.mem_of_getElem? (i := 518) (by decide +kernel)) rfl), (zin (List.mem_of_getElem? (i := 42) (by decide +kernel)) rfl), (zin (List.mem_of_getElem? (i := 519) rfl) rfl)⟩, (by decide), (by decide), (by decide +kernel)⟩
set_option maxRecDepth 40000 in
theorem mv_We_85 : zV RWe 85 yWe_choose cWe_choose 8 none 3 := ⟨⟨(zin (List.mem_of_getElem? (i := 520) (by decide +kernel)) rfl), (zin (List.mem_of_getElem? (i := 522) (by decide +kernel)) rfl), (zin (List.mem_of_getElem? (i := 12) (by decide +kernel)) rfl), (zin (List.mem_of_getElem? (i := 46) (by decide +kernel)) rfl), (zin (List.mem_of_getElem? (i := 523) rfl) rfl)⟩, (by decide), (by decide), (by decide +kernel)⟩
set_option maxRecDepth 40000 in
theorem mv_We_89 : zV RWe 89 yWe_keep cWe_keep 4 none 2 := ⟨⟨(zin (List.mem_of_getElem? (i := 524) (by decide +kernel)) rfl), (zin (List.mem_of_getElem? (i := 526) (by decide +kernel)) rfl), (zin (List.mem_of_getElem? (i := 13) (by decide +kernel)) rfl), (zin (List.mem_of_getElem? (i := 46) (by decide +kernel)) rfl), (zin (List.mem_of_getElem? (i := 527) rfl) rfl)⟩, (by decide), (by decide), (by decide +kernel)⟩
theorem gf_We_93 (S : CallFix p m c cc nL s args zT RWe) (r : zr G s ws H) (q0 : Nat) {fs : List Value} (he : ws[q0]? = some (a, .inr (2, fs))) {v : Value} (hv : fs[0]? = some v) (hdg : decode cc pc = .ok (.getfield 93, 3)) (kk : W p l e R s m args below meth c H locs cells slots Q (F0 m (pc + 3) ls (v :: rest))) : W p l e R s m args below meth c H locs cells slots Q (F0 m pc ls (.ref a :: rest)) := z_get 0 S (uz inGr) rfl (by decide) rfl (zin (List.mem_of_getElem? (i := 67) (by decide +kernel)) rfl) r q0 he hv hdg kk
theorem gf_We_18 (S : CallFix p m c cc nL s args zT RWe) (r : zr G s ws H) (q0 : Nat) {fs : List Value} (he : ws[q0]? = some (a, .inr (5, fs))) {v : Value} (hv : fs[4]? = some v) (hdg : decode cc pc = .ok (.getfield 18, 3)) (kk : W p l e R s m args below meth c H locs cells slots Q (F0 m (pc + 3) ls (v :: rest))) : W p l e R s m args below meth c H locs cells slots Q (F0 m pc ls (.ref a :: rest)) := z_get 4 S (uz inWe) rfl (by decide) rfl (zin (List.mem_of_getElem? (i := 201) (by decide +kernel)) rfl) r q0 he hv hdg kk
set_option maxRecDepth 40000 in
theorem mv_We_96 : zV RWe 96 yFs_multiplyLast cFs_multiplyLast 7 none 4 := ⟨⟨(zin (List.mem_of_getElem? (i := 533) (by decide +kernel)) rfl), (zin (List.mem_of_getElem? (i := 534) (by decide +kernel)) rfl), (zin (List.mem_of_getElem? (i := 535) (by decide +kernel)) rfl), (zin (List.mem_of_getElem? (i := 42) (by decide +kernel)) rfl), (zin (List.mem_of_getElem? (i := 536) rfl) rfl)⟩, (by decide), (by decide), (by decide +kernel)⟩
theorem gf_We_77 (S : CallFix p m c cc nL s args zT RWe) (r : zr G s ws H) (q0 : Nat) {fs : List Value} (he : ws[q0]? = some (a, .inr (5, fs))) {v : Value} (hv : fs[10]? = some v) (hdg : decode cc pc = .ok (.getfield 77, 3)) (kk : W p l e R s m args below meth c H locs cells slots Q (F0 m (pc + 3) ls (v :: rest))) : W p l e R s m args below meth c H locs cells slots Q (F0 m pc ls (.ref a :: rest)) := z_get 10 S (uz inWe) rfl (by decide) rfl (zin (List.mem_of_getElem? (i := 211) (by decide +kernel)) rfl) r q0 he hv hdg kk
theorem gf_We_74 (S : CallFix p m c cc nL s args zT RWe) (r : zr G s ws H) (q0 : Nat) {fs : List Value} (he : ws[q0]? = some (a, .inr (5, fs))) {v : Value} (hv : fs[9]? = some v) (hdg : decode cc pc = .ok (.getfield 74, 3)) (kk : W p l e R s m args below meth c H locs cells slots Q (F0 m (pc + 3) ls (v :: rest))) : W p l e R s m args below meth c H locs cells slots Q (F0 m pc ls (.ref a :: rest)) := z_get 9 S (uz inWe) rfl (by decide) rfl (zin (List.mem_of_getElem? (i := 209) (by decide +kernel)) rfl) r q0 he hv hdg kk
theorem gf_We_71 (S : CallFix p m c cc nL s args zT RWe) (r : zr G s ws H) (q0 : Nat) {fs : List Value} (he : ws[q0]? = some (a, .inr (5, fs))) {v : Value} (hv : fs[8]? = some v) (hdg : decode cc pc = .ok (.getfield 71, 3)) (kk : W p l e R s m args below meth c H locs cells slots Q (F0 m (pc + 3) ls (v :: rest))) : W p l e R s m args below meth c H locs cells slots Q (F0 m pc ls (.ref a :: rest)) := z_get 8 S (uz inWe) rfl (by decide) rfl (zin (List.mem_of_getElem? (i := 207) (by decide +kernel)) rfl) r q0 he hv hdg kk
theorem gf_We_25 (S : CallFix p m c cc nL s args zT RWe) (r : zr G s ws H) (q0 : Nat) {fs : List Value} (he : ws[q0]? = some (a, .inr (5, fs))) {v : Value} (hv : fs[6]? = some v) (hdg : decode cc pc = .ok (.getfield 25, 3)) (kk : W p l e R s m args below meth c H locs cells slots Q (F0 m (pc + 3) ls (v :: rest))) : W p l e R s m args below meth c H locs cells slots Q (F0 m pc ls (.ref a :: rest)) := z_get 6 S (uz inWe) rfl (by decide) rfl (zin (List.mem_of_getElem? (i := 203) (by decide +kernel)) rfl) r q0 he hv hdg kk
set_option maxRecDepth 40000 in
theorem mv_We_100 : zV RWe 100 yWe_insertRank cWe_insertRank 5 none 2 := ⟨⟨(zin (List.mem_of_getElem? (i := 528) (by decide +kernel)) rfl), (zin (List.mem_of_getElem? (i := 530) (by decide +kernel)) rfl), (zin (List.mem_of_getElem? (i := 14) (by decide +kernel)) rfl), (zin (List.mem_of_getElem? (i := 46) (by decide +kernel)) rfl), (zin (List.mem_of_getElem? (i := 531) rfl) rfl)⟩, (by decide), (by decide), (by decide +kernel)⟩
set_option maxRecDepth 40000 in
theorem mv_We_103 : zSt RWe 103 yJm_min cJm_min 2 (some .int) 2 := ⟨⟨(zin (List.mem_of_getElem? (i := 532) (by decide +kernel)) rfl), (zin (List.mem_of_getElem? (i := 435) (by decide +kernel)) rfl), (zin (List.mem_of_getElem? (i := 50) (by decide +kernel)) rfl), (zin (List.mem_of_getElem? (i := 436) rfl) rfl)⟩, (by decide), (by decide), (by decide +kernel)⟩
theorem gf_We_28 (S : CallFix p m c cc nL s args zT RWe) (r : zr G s ws H) (q0 : Nat) {fs : List Value} (he : ws[q0]? = some (a, .inr (5, fs))) {v : Value} (hv : fs[7]? = some v) (hdg : decode cc pc = .ok (.getfield 28, 3)) (kk : W p l e R s m args below meth c H locs cells slots Q (F0 m (pc + 3) ls (v :: rest))) : W p l e R s m args below meth c H locs cells slots Q (F0 m pc ls (.ref a :: rest)) := z_get 7 S (uz inWe) rfl (by decide) rfl (zin (List.mem_of_getElem? (i := 205) (by decide +kernel)) rfl) r q0 he hv hdg kk
set_option maxRecDepth 40000 in
theorem mv_We_108 : zSt RWe 108 yGr_remainder cGr_remainder 2 (some .int) 2 := ⟨⟨(zin (List.mem_of_getElem? (i := 556) (by decide +kernel)) rfl), (zin (List.mem_of_getElem? (i := 557) (by decide +kernel)) rfl), (zin (List.mem_of_getElem? (i := 41) (by decide +kernel)) rfl), (zin (List.mem_of_getElem? (i := 558) rfl) rfl)⟩, (by decide), (by decide), (by decide +kernel)⟩
set_option maxRecDepth 40000 in
theorem mv_We_111 : zSt RWe 111 yGr_quotient cGr_quotient 2 (some .int) 2 := ⟨⟨(zin (List.mem_of_getElem? (i := 559) (by decide +kernel)) rfl), (zin (List.mem_of_getElem? (i := 560) (by decide +kernel)) rfl), (zin (List.mem_of_getElem? (i := 41) (by decide +kernel)) rfl), (zin (List.mem_of_getElem? (i := 561) rfl) rfl)⟩, (by decide), (by decide), (by decide +kernel)⟩
theorem pf_We_114 (S : CallFix p m c cc nL s args zT RWe) (w : zw G A s ws H locs) (q0 : Nat) {fs : List Value} (he : ws[q0]? = some (a, .inr (5, fs))) {v : Value} (hn : narrow (tyWe 11) v = v) (hfit : fits (tyWe 11) v = true) (hl : 11 < fs.length) (hw : ws.set q0 (a, .inr (5, fs.set 11 v)) = ws') (hdg : decode cc pc = .ok (.putfield 114, 3)) (kk : ∀ (H1 : Heap) (locs1 : List Loc), zw G A s ws' H1 locs1 → W p l e R s m args below meth c H1 locs1 cells slots Q (F0 m (pc + 3) ls rest)) : W p l e R s m args below meth c H locs cells slots Q (F0 m pc ls (v :: .ref a :: rest)) := z_put 11 S (uz inWe) tyWe tyWe_ok nmWe rfl (by decide) rfl (zin (List.mem_of_getElem? (i := 213) (by decide +kernel)) rfl) rfl w q0 he hn hfit hl hw hdg kk
theorem pf_We_117 (S : CallFix p m c cc nL s args zT RWe) (w : zw G A s ws H locs) (q0 : Nat) {fs : List Value} (he : ws[q0]? = some (a, .inr (5, fs))) {v : Value} (hn : narrow (tyWe 12) v = v) (hfit : fits (tyWe 12) v = true) (hl : 12 < fs.length) (hw : ws.set q0 (a, .inr (5, fs.set 12 v)) = ws') (hdg : decode cc pc = .ok (.putfield 117, 3)) (kk : ∀ (H1 : Heap) (locs1 : List Loc), zw G A s ws' H1 locs1 → W p l e R s m args below meth c H1 locs1 cells slots Q (F0 m (pc + 3) ls rest)) : W p l e R s m args below meth c H locs cells slots Q (F0 m pc ls (v :: .ref a :: rest)) := z_put 12 S (uz inWe) tyWe tyWe_ok nmWe rfl (by decide) rfl (zin (List.mem_of_getElem? (i := 215) (by decide +kernel)) rfl) rfl w q0 he hn hfit hl hw hdg kk
set_option maxRecDepth 40000 in
theorem mv_We_120 : zV RWe 120 yWe_gather cWe_gather 5 none 2 := ⟨⟨(zin (List.mem_of_getElem? (i := 562) (by decide +kernel)) rfl), (zin (List.mem_of_getElem? (i := 564) (by decide +kernel)) rfl), (zin (List.mem_of_getElem? (i := 15) (by decide +kernel)) rfl), (zin (List.mem_of_getElem? (i := 46) (by decide +kernel)) rfl), (zin (List.mem_of_getElem? (i := 565) rfl) rfl)⟩, (by decide), (by decide), (by decide +kernel)⟩
theorem gf_We_114 (S : CallFix p m c cc nL s args zT RWe) (r : zr G s ws H) (q0 : Nat) {fs : List Value} (he : ws[q0]? = some (a, .inr (5, fs))) {v : Value} (hv : fs[11]? = some v) (hdg : decode cc pc = .ok (.getfield 114, 3)) (kk : W p l e R s m args below meth c H locs cells slots Q (F0 m (pc + 3) ls (v :: rest))) : W p l e R s m args below meth c H locs cells slots Q (F0 m pc ls (.ref a :: rest)) := z_get 11 S (uz inWe) rfl (by decide) rfl (zin (List.mem_of_getElem? (i := 213) (by decide +kernel)) rfl) r q0 he hv hdg kk
theorem gf_We_117 (S : CallFix p m c cc nL s args zT RWe) (r : zr G s ws H) (q0 : Nat) {fs : List Value} (he : ws[q0]? = some (a, .inr (5, fs))) {v : Value} (hv : fs[12]? = some v) (hdg : decode cc pc = .ok (.getfield 117, 3)) (kk : W p l e R s m args below meth c H locs cells slots Q (F0 m (pc + 3) ls (v :: rest))) : W p l e R s m args below meth c H locs cells slots Q (F0 m pc ls (.ref a :: rest)) := z_get 12 S (uz inWe) rfl (by decide) rfl (zin (List.mem_of_getElem? (i := 215) (by decide +kernel)) rfl) r q0 he hv hdg kk
theorem kc_Ji_265 : Cond.constant RJi 265 (nI 1431655765) ∈ zT := (zin (List.mem_of_getElem? (i := 296) (by decide +kernel)) rfl)
theorem kc_Ji_266 : Cond.constant RJi 266 (nI 858993459) ∈ zT := (zin (List.mem_of_getElem? (i := 297) (by decide +kernel)) rfl)
theorem kc_Ji_267 : Cond.constant RJi 267 (nI 252645135) ∈ zT := (zin (List.mem_of_getElem? (i := 298) (by decide +kernel)) rfl)
end LK
theorem ka_int : Cond.arrayClass .int ∈ zT := (zin (List.mem_of_getElem? (i := 88) (by decide +kernel)) rfl)
theorem ka_long : Cond.arrayClass .long ∈ zT := (zin (List.mem_of_getElem? (i := 247) (by decide +kernel)) rfl)
end
section
-- worlds as sets of cells
theorem va_P_iff {D : va_G} {cl : List vw_C} {ws : va_W} {H : Heap} : va_P D cl ws H ↔ ∀ q ∈ ws, va_at D cl q H :=
  ⟨fun h q hq => by
    obtain ⟨k, hk⟩ := List.mem_iff_getElem?.mp hq
    exact h k q hk, fun h k q hk => h q (List.mem_of_getElem? hk)⟩
theorem va_D_iff {A : Nat → Prop} {ws : va_W} : va_D A ws ↔ (ws.map (·.1)).Nodup ∧ ∀ q ∈ ws, A q.1 := by
  constructor
  · rintro ⟨h1, h2⟩
    refine ⟨?_, fun q hq => ?_⟩
    · unfold List.Nodup
      rw [List.pairwise_iff_getElem]
      intro i j hi hj hij he
      rw [List.length_map] at hi hj
      rw [List.getElem_map, List.getElem_map] at he
      have := h1 i j ws[i] ws[j] (List.getElem?_eq_getElem hi) (List.getElem?_eq_getElem hj) he
      omega
    · obtain ⟨k, hk⟩ := List.mem_iff_getElem?.mp hq
      exact h2 k q hk
  · rintro ⟨h1, h2⟩
    refine ⟨fun i j p q hi hj he => ?_, fun k q hk => h2 q (List.mem_of_getElem? hk)⟩
    unfold List.Nodup at h1
    rw [List.pairwise_iff_getElem] at h1
    obtain ⟨hi1, rfl⟩ := List.getElem?_eq_some_iff.mp hi
    obtain ⟨hj1, rfl⟩ := List.getElem?_eq_some_iff.mp hj
    rcases Nat.lt_trichotomy i j with h | h | h
    · exact absurd (by rw [List.getElem_map, List.getElem_map]; exact he) (h1 i j (by rw [List.length_map]; exact hi1) (by rw [List.length_map]; exact hj1) h)
    · exact h
    · exact absurd (by rw [List.getElem_map, List.getElem_map]; exact he.symm) (h1 j i (by rw [List.length_map]; exact hj1) (by rw [List.length_map]; exact hi1) h)
theorem zw.of_perm {G : zG} {A : Nat → Prop} {s : State} {ws ws' : va_W} {H : Heap} {locs : List Loc} (w : zw G A s ws H locs) (h : ws.Perm ws') : zw G A s ws' H locs := by
  obtain ⟨⟨hK, hP⟩, hD, hS, hA⟩ := w
  rw [va_D_iff] at hD
  rw [va_P_iff] at hP
  exact ⟨⟨hK, va_P_iff.mpr fun q hq => hP q (h.mem_iff.mpr hq)⟩, va_D_iff.mpr ⟨(h.map _).nodup hD.1, fun q hq => hD.2 q (h.mem_iff.mpr hq)⟩, hS, hA⟩
theorem zr.of_sub {G : zG} {s : State} {ws ws' : va_W} {H : Heap} (r : zr G s ws H) (h : ∀ q ∈ ws', q ∈ ws) : zr G s ws' H :=
  ⟨r.1, va_P_iff.mpr fun q hq => va_P_iff.mp r.2 q (h q hq)⟩
theorem zsplC (wc wr : va_W) : (List.range wc.length).map (fun i => (wc ++ wr)[i]?) = wc.map some := by
  apply List.ext_getElem?
  intro i
  rw [List.getElem?_map, List.getElem?_map]
  by_cases h : i < wc.length
  · rw [List.getElem?_range h]
    simp [List.getElem?_append_left h, h]
  · rw [List.getElem?_eq_none (by simp; omega), List.getElem?_eq_none (by omega)]
    rfl
theorem zsplR (wc wr : va_W) : ((List.range wr.length).map (· + wc.length)).map (fun i => (wc ++ wr)[i]?) = wr.map some := by
  apply List.ext_getElem?
  intro i
  rw [List.getElem?_map, List.getElem?_map, List.getElem?_map]
  by_cases h : i < wr.length
  · rw [List.getElem?_range h]
    simp [List.getElem?_append_right, h]
  · rw [List.getElem?_eq_none (by simp; omega), List.getElem?_eq_none (by omega)]
    rfl
theorem va_nd_of : ∀ (l : List Nat), l.Nodup → va_nd l = true
  | [], _ => rfl
  | a :: l, h => by
    rw [List.nodup_cons] at h
    simp [va_nd, h.1, va_nd_of l h.2]
theorem znd1 (n : Nat) : va_nd (List.range n) = true := va_nd_of _ List.nodup_range
theorem znd2 (n k : Nat) : va_nd ((List.range n).map (· + k)) = true := va_nd_of _ (by
  unfold List.Nodup
  rw [List.pairwise_map]
  exact List.Pairwise.imp (fun h => by omega) (List.nodup_range (n := n)))
theorem zdis (wc wr : va_W) : ∀ i ∈ (List.range wr.length).map (· + wc.length), i ∉ List.range wc.length := by
  intro i hi h2
  obtain ⟨j, -, rfl⟩ := List.mem_map.mp hi
  have := List.mem_range.mp h2
  omega
end
section
-- PURE: what the methods' loops compute
/-- the product of the values of a set's names below i -/
def cellsF (V : Nat → Nat) (S : Nat) : Nat → Nat
  | 0 => 1
  | i + 1 => if S.testBit i then cellsF V S i * V i else cellsF V S i
theorem cellsF_t {V : Nat → Nat} {S i : Nat} (h : S.testBit i = true) : cellsF V S (i + 1) = cellsF V S i * V i := by
  simp [cellsF, h]
theorem cellsF_f {V : Nat → Nat} {S i : Nat} (h : S.testBit i = false) : cellsF V S (i + 1) = cellsF V S i := by
  simp [cellsF, h]
/-- how many bits below 12 -/
def popc (a : Nat) : Nat := (List.range 12).foldl (fun s i => s + (a.testBit i).toNat) 0
/-- the lowest bit's place -/
def tz (o : Nat) : Nat := ((List.range 12).find? (fun i => o.testBit i)).getD 0
def popS (Nb : Nat → Nat) : Nat → Nat
  | 0 => 0
  | i + 1 => popS Nb i + popc (Nb i)
theorem by4096 {P : Nat → Prop} (h : ∀ a, a < 64 → ∀ b, b < 64 → P (64 * a + b)) : ∀ o, o < 4096 → P o := fun o ho => by
  have h2 := h (o / 64) (by omega) (o % 64) (by omega)
  rwa [show 64 * (o / 64) + o % 64 = o by omega] at h2
theorem popc_le : ∀ a, a < 4096 → popc a ≤ 12 := by4096 (by decide +kernel)
theorem popS_le {Nb : Nat → Nat} (h : ∀ i, Nb i < 4096) : ∀ i, popS Nb i ≤ 12 * i
  | 0 => Nat.le_refl 0
  | i + 1 => by
    have h1 := popS_le h i
    have h2 := popc_le (Nb i) (h i)
    simp only [popS]
    omega
theorem tz_lt : ∀ o, o < 4096 → 0 < o → tz o < 12 := by4096 (by decide +kernel)
theorem zb_low : ∀ o, o < 4096 → 0 < o → (nI o &&& -(nI o)) - nI 1 = nI (2 ^ tz o - 1) := by4096 (by decide +kernel)
theorem popc_low : ∀ t, t < 12 → popc (2 ^ t - 1) = t := by decide +kernel
/-- the steps of reached() -/
def rchL (Nb : Nat → Nat) (I : Nat) : Nat → Nat → Nat → Nat
  | 0, seen, _ => seen
  | k + 1, seen, passed => if sdf (seen &&& I) passed = 0 then seen else rchL Nb I k (seen ||| Nb (tz (sdf (seen &&& I) passed))) (passed ||| 2 ^ tz (sdf (seen &&& I) passed))
def rchF (Nb : Nat → Nat) (n f I : Nat) : Nat := rchL Nb I n (Nb f ||| 2 ^ f) 0
theorem rchL_0 {Nb : Nat → Nat} {I k seen passed : Nat} (h : sdf (seen &&& I) passed = 0) : rchL Nb I (k + 1) seen passed = seen := by
  simp [rchL, h]
theorem rchL_s {Nb : Nat → Nat} {I k seen passed : Nat} (h : ¬ sdf (seen &&& I) passed = 0) : rchL Nb I (k + 1) seen passed = rchL Nb I k (seen ||| Nb (tz (sdf (seen &&& I) passed))) (passed ||| 2 ^ tz (sdf (seen &&& I) passed)) := by
  simp [rchL, h]
theorem sdf_le (a b : Nat) : sdf a b ≤ a := by
  apply Nat.le_of_testBit
  intro i h
  rw [sdf_bit] at h
  cases h2 : a.testBit i
  · rw [h2] at h
    simp at h
  · rfl
theorem or_lt {a b : Nat} (ha : a < 4096) (hb : b < 4096) : a ||| b < 4096 := Nat.or_lt_two_pow (n := 12) ha hb
theorem pw_lt {i : Nat} (h : i < 12) : 2 ^ i < 4096 := Nat.pow_lt_pow_right (by decide) h
theorem rchL_lt {Nb : Nat → Nat} {I : Nat} (hN : ∀ i, Nb i < 4096) : ∀ k seen passed, seen < 4096 → rchL Nb I k seen passed < 4096
  | 0, _, _, h => h
  | k + 1, seen, passed, h => by
    by_cases h0 : sdf (seen &&& I) passed = 0
    · rw [rchL_0 h0]; exact h
    · rw [rchL_s h0]; exact rchL_lt hN k _ _ (or_lt h (hN _))
theorem rchF_lt {Nb : Nat → Nat} {n f I : Nat} (hN : ∀ i, Nb i < 4096) (hf : f < 12) : rchF Nb n f I < 4096 := rchL_lt hN _ _ _ (or_lt (hN f) (pw_lt hf))
def bagF (Nb : Nat → Nat) (n f gone : Nat) : Nat := sdf (rchF Nb n f gone) gone
theorem bagF_lt {Nb : Nat → Nat} {n f I : Nat} (hN : ∀ i, Nb i < 4096) (hf : f < 12) : bagF Nb n f I < 4096 := Nat.lt_of_le_of_lt (sdf_le _ _) (rchF_lt hN hf)
def fillS (Nb : Nat → Nat) (n bag gone : Nat) : Nat → Nat
  | 0 => 0
  | i + 1 => if bag.testBit i then fillS Nb n bag gone i + popc (sdf bag (rchF Nb n i gone)) else fillS Nb n bag gone i
theorem fillS_t {Nb : Nat → Nat} {n bag gone i : Nat} (h : bag.testBit i = true) : fillS Nb n bag gone (i + 1) = fillS Nb n bag gone i + popc (sdf bag (rchF Nb n i gone)) := by simp [fillS, h]
theorem fillS_f {Nb : Nat → Nat} {n bag gone i : Nat} (h : bag.testBit i = false) : fillS Nb n bag gone (i + 1) = fillS Nb n bag gone i := by simp [fillS, h]
theorem fillS_le {Nb : Nat → Nat} {n bag gone : Nat} (hb : bag < 4096) : ∀ i, fillS Nb n bag gone i ≤ 12 * i
  | 0 => Nat.le_refl 0
  | i + 1 => by
    have h1 := fillS_le (Nb := Nb) (n := n) (gone := gone) hb i
    have h2 := popc_le (sdf bag (rchF Nb n i gone)) (Nat.lt_of_le_of_lt (sdf_le _ _) hb)
    cases h : bag.testBit i
    · rw [fillS_f h]; omega
    · rw [fillS_t h]; omega
/-- the rest of a state behind the names from i on (n of them in all): divided by the values of the names n - 1 down to n - k -/
def restF (V : Nat → Nat) (n x : Nat) : Nat → Nat
  | 0 => x
  | k + 1 => restF V n x k / V (n - 1 - k)
theorem restF_le {V : Nat → Nat} {n x : Nat} : ∀ k, restF V n x k ≤ x
  | 0 => Nat.le_refl x
  | k + 1 => Nat.le_trans (Nat.div_le_self _ _) (restF_le k)
def valF (V : Nat → Nat) (n x i : Nat) : Nat := restF V n x (n - 1 - i) % V i
def knP (x : Int32) (n : Nat) : Prop := ¬ x < 0 ∧ ¬ nI n ≤ x
def kaP (x : Int32) (n : Nat) : Prop := ¬ x < 0 ∧ x >>> (nI n &&& 31) = 0
-- a factor
def entF (nm sp C : Nat → Nat) : Nat → Nat
  | 0 => 0
  | i + 1 => entF nm sp C i + C (nm i) * sp i
/-- a row in which the first i places have been made anew -/
def rowF (f g : Nat → Nat) (i : Nat) : Nat → Nat := fun j => if j < i then g j else f j
theorem rowF_0 (f g : Nat → Nat) : rowF f g 0 = f := by
  funext j
  simp [rowF]
theorem rowF_s (f g : Nat → Nat) (i : Nat) : va_up (rowF f g i) i (g i) = rowF f g (i + 1) := by
  funext j
  unfold va_up rowF
  by_cases h : j = i
  · subst h
    simp
  · rw [if_neg h]
    by_cases h2 : j < i
    · rw [if_pos h2, if_pos (by omega)]
    · rw [if_neg h2, if_neg (by omega)]
/-- products[from ..] times the powers of the entries e, e + st, .. -/
def mulF (Pr P : Nat → Nat) (fr e st v : Nat) : Nat → Nat := fun j => if fr ≤ j ∧ j < fr + v then Pr j * P (e + (j - fr) * st) else Pr j
theorem mulF_0 (Pr P : Nat → Nat) (fr e st : Nat) : mulF Pr P fr e st 0 = Pr := by
  funext j
  unfold mulF
  rw [if_neg (by omega)]
theorem mulF_at (Pr P : Nat → Nat) (fr e st v : Nat) : mulF Pr P fr e st v (fr + v) = Pr (fr + v) := by
  unfold mulF
  rw [if_neg (by omega)]
theorem mulF_s (Pr P : Nat → Nat) (fr e st v : Nat) : va_up (mulF Pr P fr e st v) (fr + v) (Pr (fr + v) * P (e + v * st)) = mulF Pr P fr e st (v + 1) := by
  funext j
  unfold va_up mulF
  by_cases h : j = fr + v
  · subst h
    rw [if_pos rfl, if_pos (by omega), show fr + v - fr = v by omega]
  · rw [if_neg h]
    by_cases h2 : fr ≤ j ∧ j < fr + v
    · rw [if_pos h2, if_pos (by omega)]
    · rw [if_neg h2, if_neg (by omega)]
end
section
theorem mI_dec (t : Nat) : nI t + Int32.ofInt (-1) = mI t := by
  unfold mI
  rw [show Int32.ofInt (-1) = -1 by decide, Int32.sub_eq_add_neg]
noncomputable def zif {α : Type} (P : Prop) (a b : α) : α := @ite α P (Classical.propDecidable P) a b
theorem zif_t {α : Type} {P : Prop} {a b : α} (h : P) : zif P a b = a := by
  unfold zif
  rw [if_pos h]
theorem zif_f {α : Type} {P : Prop} {a b : α} (h : ¬ P) : zif P a b = b := by
  unfold zif
  rw [if_neg h]
section ZR6
variable {p : Program} {l : Launch} {e : Env} {R : Room} {s : State} {m : MethodId} {args : Array Value} {below : List Frame} {meth : Method} {c : Code} {H : Heap} {locs : List Loc} {cells slots : Nat} {Q : State → Prop}
variable {cc : ByteArray} {pc nL : Nat} {ls : Array Slot} {rest : List Value}
theorem z_ifltM (hx : p.tables.exec = Jvm.exec) (hb : c.code = cc) {x : Nat} {off : Int} {tgt : Nat} (h1 : x < 2 ^ 30) (hdg : decode cc pc = .ok (.ifCond .lt off, 3)) (ht : (pc : Int) + off = (tgt : Int))
    (kt : x = 0 → W p l e R s m args below meth c H locs cells slots Q (F0 m tgt ls rest)) (kf : x ≠ 0 → W p l e R s m args below meth c H locs cells slots Q (F0 m (pc + 3) ls rest)) : W p l e R s m args below meth c H locs cells slots Q (F0 m pc ls (.int (mI x) :: rest)) := by
  have key : mI x < 0 ↔ x = 0 := by
    rw [Int32.lt_iff_toInt_lt, mI_toInt h1]
    have h0 : (0 : Int32).toInt = 0 := by decide
    rw [h0]
    omega
  exact lv_if_lt hx hb hdg ht (fun q => kt (key.mp q)) (fun q => kf (fun z => q (key.mpr z)))
theorem z_ifleN (hx : p.tables.exec = Jvm.exec) (hb : c.code = cc) {x : Nat} {off : Int} {tgt : Nat} (h1 : x < 2 ^ 31) (hdg : decode cc pc = .ok (.ifCond .le off, 3)) (ht : (pc : Int) + off = (tgt : Int))
    (kt : x = 0 → W p l e R s m args below meth c H locs cells slots Q (F0 m tgt ls rest)) (kf : x ≠ 0 → W p l e R s m args below meth c H locs cells slots Q (F0 m (pc + 3) ls rest)) : W p l e R s m args below meth c H locs cells slots Q (F0 m pc ls (.int (nI x) :: rest)) := by
  have key : nI x ≤ 0 ↔ x = 0 := by
    rw [Int32.le_iff_toInt_le, nI_toInt h1]
    have h0 : (0 : Int32).toInt = 0 := by decide
    rw [h0]
    omega
  exact lv_if_le hx hb hdg ht (fun q => kt (key.mp q)) (fun q => kf (fun z => q (key.mpr z)))
end ZR6
end
section
theorem bitC : ∀ a, a < 4096 → (((((((((nI a) - ((((nI a).toUInt32 >>> ((nI 1).toUInt32 &&& Int32.toUInt32 31)).toInt32) &&& (nI 1431655765))) &&& (nI 858993459)) + (((((nI a) - ((((nI a).toUInt32 >>> ((nI 1).toUInt32 &&& Int32.toUInt32 31)).toInt32) &&& (nI 1431655765))).toUInt32 >>> ((nI 2).toUInt32 &&& Int32.toUInt32 31)).toInt32) &&& (nI 858993459))) + ((((((nI a) - ((((nI a).toUInt32 >>> ((nI 1).toUInt32 &&& Int32.toUInt32 31)).toInt32) &&& (nI 1431655765))) &&& (nI 858993459)) + (((((nI a) - ((((nI a).toUInt32 >>> ((nI 1).toUInt32 &&& Int32.toUInt32 31)).toInt32) &&& (nI 1431655765))).toUInt32 >>> ((nI 2).toUInt32 &&& Int32.toUInt32 31)).toInt32) &&& (nI 858993459))).toUInt32 >>> ((nI 4).toUInt32 &&& Int32.toUInt32 31)).toInt32)) &&& (nI 252645135)) + ((((((((nI a) - ((((nI a).toUInt32 >>> ((nI 1).toUInt32 &&& Int32.toUInt32 31)).toInt32) &&& (nI 1431655765))) &&& (nI 858993459)) + (((((nI a) - ((((nI a).toUInt32 >>> ((nI 1).toUInt32 &&& Int32.toUInt32 31)).toInt32) &&& (nI 1431655765))).toUInt32 >>> ((nI 2).toUInt32 &&& Int32.toUInt32 31)).toInt32) &&& (nI 858993459))) + ((((((nI a) - ((((nI a).toUInt32 >>> ((nI 1).toUInt32 &&& Int32.toUInt32 31)).toInt32) &&& (nI 1431655765))) &&& (nI 858993459)) + (((((nI a) - ((((nI a).toUInt32 >>> ((nI 1).toUInt32 &&& Int32.toUInt32 31)).toInt32) &&& (nI 1431655765))).toUInt32 >>> ((nI 2).toUInt32 &&& Int32.toUInt32 31)).toInt32) &&& (nI 858993459))).toUInt32 >>> ((nI 4).toUInt32 &&& Int32.toUInt32 31)).toInt32)) &&& (nI 252645135)).toUInt32 >>> ((nI 8).toUInt32 &&& Int32.toUInt32 31)).toInt32)) + (((((((((nI a) - ((((nI a).toUInt32 >>> ((nI 1).toUInt32 &&& Int32.toUInt32 31)).toInt32) &&& (nI 1431655765))) &&& (nI 858993459)) + (((((nI a) - ((((nI a).toUInt32 >>> ((nI 1).toUInt32 &&& Int32.toUInt32 31)).toInt32) &&& (nI 1431655765))).toUInt32 >>> ((nI 2).toUInt32 &&& Int32.toUInt32 31)).toInt32) &&& (nI 858993459))) + ((((((nI a) - ((((nI a).toUInt32 >>> ((nI 1).toUInt32 &&& Int32.toUInt32 31)).toInt32) &&& (nI 1431655765))) &&& (nI 858993459)) + (((((nI a) - ((((nI a).toUInt32 >>> ((nI 1).toUInt32 &&& Int32.toUInt32 31)).toInt32) &&& (nI 1431655765))).toUInt32 >>> ((nI 2).toUInt32 &&& Int32.toUInt32 31)).toInt32) &&& (nI 858993459))).toUInt32 >>> ((nI 4).toUInt32 &&& Int32.toUInt32 31)).toInt32)) &&& (nI 252645135)) + ((((((((nI a) - ((((nI a).toUInt32 >>> ((nI 1).toUInt32 &&& Int32.toUInt32 31)).toInt32) &&& (nI 1431655765))) &&& (nI 858993459)) + (((((nI a) - ((((nI a).toUInt32 >>> ((nI 1).toUInt32 &&& Int32.toUInt32 31)).toInt32) &&& (nI 1431655765))).toUInt32 >>> ((nI 2).toUInt32 &&& Int32.toUInt32 31)).toInt32) &&& (nI 858993459))) + ((((((nI a) - ((((nI a).toUInt32 >>> ((nI 1).toUInt32 &&& Int32.toUInt32 31)).toInt32) &&& (nI 1431655765))) &&& (nI 858993459)) + (((((nI a) - ((((nI a).toUInt32 >>> ((nI 1).toUInt32 &&& Int32.toUInt32 31)).toInt32) &&& (nI 1431655765))).toUInt32 >>> ((nI 2).toUInt32 &&& Int32.toUInt32 31)).toInt32) &&& (nI 858993459))).toUInt32 >>> ((nI 4).toUInt32 &&& Int32.toUInt32 31)).toInt32)) &&& (nI 252645135)).toUInt32 >>> ((nI 8).toUInt32 &&& Int32.toUInt32 31)).toInt32)).toUInt32 >>> ((nI 16).toUInt32 &&& Int32.toUInt32 31)).toInt32)) &&& (nI 63)) = nI (popc a) := by4096 (by decide +kernel)
def rm_bitCount : Room := { frames := 0, cells := 0, slots := 0, locals := 0 }
set_option maxHeartbeats 4000000 in
set_option maxRecDepth 100000 in
theorem c_bitCount (l : Launch) (G : zG) (a : Nat) (ha : a < 4096) : Met l yJi_bitCount (.code yJi_bitCount cJi_bitCount 1 (some .int) :: zT) rm_bitCount (zPr G [.int (nI a)] []) (k2_QcV (.int (nI (popc a)))) 0 0 (fun _ => False) := by
  refine z_metRi (by decide) (Nat.le_of_ble_eq_true rfl) (fun p e s m args below meth c ls Q Sf r hl hret => ?_)
  have Sf : CallFix p m c cJi_bitCount 1 s args zT RJi := Sf
  have hx := Sf.1
  have hb := Sf.2.1
  have hown := Sf.2.2.2.1
  have hts := Sf.2.2.2.2
  have hl : lv_has ls 1 [(0, .int (nI a))] := hl
  refine lv_iload_n hx hb dJi_bitCount_0 rfl (lv_at hl 0 rfl) ?_
  refine lv_iload_n hx hb dJi_bitCount_1 rfl (lv_at hl 0 rfl) ?_
  refine lv_iconst (v := (nI 1)) hx hb dJi_bitCount_2 (by decide) ?_
  refine lv_iushr hx hb dJi_bitCount_3 rfl ?_
  refine lv_ldcw (v := nI 1431655765) hx hb hown (hts _ kc_Ji_265) dJi_bitCount_4 ?_
  refine lv_iand hx hb dJi_bitCount_7 ?_
  refine lv_isub hx hb dJi_bitCount_8 ?_
  refine lv_istore_n (lv' := [(0, .int ((nI a) - ((((nI a).toUInt32 >>> ((nI 1).toUInt32 &&& Int32.toUInt32 31)).toInt32) &&& (nI 1431655765))))]) hx hb dJi_bitCount_9 rfl hl (by decide) rfl (fun ls hl => ?_)
  refine lv_iload_n hx hb dJi_bitCount_10 rfl (lv_at hl 0 rfl) ?_
  refine lv_ldcw (v := nI 858993459) hx hb hown (hts _ kc_Ji_266) dJi_bitCount_11 ?_
  refine lv_iand hx hb dJi_bitCount_14 ?_
  refine lv_iload_n hx hb dJi_bitCount_15 rfl (lv_at hl 0 rfl) ?_
  refine lv_iconst (v := (nI 2)) hx hb dJi_bitCount_16 (by decide) ?_
  refine lv_iushr hx hb dJi_bitCount_17 rfl ?_
  refine lv_ldcw (v := nI 858993459) hx hb hown (hts _ kc_Ji_266) dJi_bitCount_18 ?_
  refine lv_iand hx hb dJi_bitCount_21 ?_
  refine lv_iadd hx hb dJi_bitCount_22 ?_
  refine lv_istore_n (lv' := [(0, .int ((((nI a) - ((((nI a).toUInt32 >>> ((nI 1).toUInt32 &&& Int32.toUInt32 31)).toInt32) &&& (nI 1431655765))) &&& (nI 858993459)) + (((((nI a) - ((((nI a).toUInt32 >>> ((nI 1).toUInt32 &&& Int32.toUInt32 31)).toInt32) &&& (nI 1431655765))).toUInt32 >>> ((nI 2).toUInt32 &&& Int32.toUInt32 31)).toInt32) &&& (nI 858993459))))]) hx hb dJi_bitCount_23 rfl hl (by decide) rfl (fun ls hl => ?_)
  refine lv_iload_n hx hb dJi_bitCount_24 rfl (lv_at hl 0 rfl) ?_
  refine lv_iload_n hx hb dJi_bitCount_25 rfl (lv_at hl 0 rfl) ?_
  refine lv_iconst (v := (nI 4)) hx hb dJi_bitCount_26 (by decide) ?_
  refine lv_iushr hx hb dJi_bitCount_27 rfl ?_
  refine lv_iadd hx hb dJi_bitCount_28 ?_
  refine lv_ldcw (v := nI 252645135) hx hb hown (hts _ kc_Ji_267) dJi_bitCount_29 ?_
  refine lv_iand hx hb dJi_bitCount_32 ?_
  refine lv_istore_n (lv' := [(0, .int ((((((nI a) - ((((nI a).toUInt32 >>> ((nI 1).toUInt32 &&& Int32.toUInt32 31)).toInt32) &&& (nI 1431655765))) &&& (nI 858993459)) + (((((nI a) - ((((nI a).toUInt32 >>> ((nI 1).toUInt32 &&& Int32.toUInt32 31)).toInt32) &&& (nI 1431655765))).toUInt32 >>> ((nI 2).toUInt32 &&& Int32.toUInt32 31)).toInt32) &&& (nI 858993459))) + ((((((nI a) - ((((nI a).toUInt32 >>> ((nI 1).toUInt32 &&& Int32.toUInt32 31)).toInt32) &&& (nI 1431655765))) &&& (nI 858993459)) + (((((nI a) - ((((nI a).toUInt32 >>> ((nI 1).toUInt32 &&& Int32.toUInt32 31)).toInt32) &&& (nI 1431655765))).toUInt32 >>> ((nI 2).toUInt32 &&& Int32.toUInt32 31)).toInt32) &&& (nI 858993459))).toUInt32 >>> ((nI 4).toUInt32 &&& Int32.toUInt32 31)).toInt32)) &&& (nI 252645135)))]) hx hb dJi_bitCount_33 rfl hl (by decide) rfl (fun ls hl => ?_)
  refine lv_iload_n hx hb dJi_bitCount_34 rfl (lv_at hl 0 rfl) ?_
  refine lv_iload_n hx hb dJi_bitCount_35 rfl (lv_at hl 0 rfl) ?_
  refine lv_bipush (v := nI 8) hx hb dJi_bitCount_36 (by decide) ?_
  refine lv_iushr hx hb dJi_bitCount_38 rfl ?_
  refine lv_iadd hx hb dJi_bitCount_39 ?_
  refine lv_istore_n (lv' := [(0, .int (((((((nI a) - ((((nI a).toUInt32 >>> ((nI 1).toUInt32 &&& Int32.toUInt32 31)).toInt32) &&& (nI 1431655765))) &&& (nI 858993459)) + (((((nI a) - ((((nI a).toUInt32 >>> ((nI 1).toUInt32 &&& Int32.toUInt32 31)).toInt32) &&& (nI 1431655765))).toUInt32 >>> ((nI 2).toUInt32 &&& Int32.toUInt32 31)).toInt32) &&& (nI 858993459))) + ((((((nI a) - ((((nI a).toUInt32 >>> ((nI 1).toUInt32 &&& Int32.toUInt32 31)).toInt32) &&& (nI 1431655765))) &&& (nI 858993459)) + (((((nI a) - ((((nI a).toUInt32 >>> ((nI 1).toUInt32 &&& Int32.toUInt32 31)).toInt32) &&& (nI 1431655765))).toUInt32 >>> ((nI 2).toUInt32 &&& Int32.toUInt32 31)).toInt32) &&& (nI 858993459))).toUInt32 >>> ((nI 4).toUInt32 &&& Int32.toUInt32 31)).toInt32)) &&& (nI 252645135)) + ((((((((nI a) - ((((nI a).toUInt32 >>> ((nI 1).toUInt32 &&& Int32.toUInt32 31)).toInt32) &&& (nI 1431655765))) &&& (nI 858993459)) + (((((nI a) - ((((nI a).toUInt32 >>> ((nI 1).toUInt32 &&& Int32.toUInt32 31)).toInt32) &&& (nI 1431655765))).toUInt32 >>> ((nI 2).toUInt32 &&& Int32.toUInt32 31)).toInt32) &&& (nI 858993459))) + ((((((nI a) - ((((nI a).toUInt32 >>> ((nI 1).toUInt32 &&& Int32.toUInt32 31)).toInt32) &&& (nI 1431655765))) &&& (nI 858993459)) + (((((nI a) - ((((nI a).toUInt32 >>> ((nI 1).toUInt32 &&& Int32.toUInt32 31)).toInt32) &&& (nI 1431655765))).toUInt32 >>> ((nI 2).toUInt32 &&& Int32.toUInt32 31)).toInt32) &&& (nI 858993459))).toUInt32 >>> ((nI 4).toUInt32 &&& Int32.toUInt32 31)).toInt32)) &&& (nI 252645135)).toUInt32 >>> ((nI 8).toUInt32 &&& Int32.toUInt32 31)).toInt32)))]) hx hb dJi_bitCount_40 rfl hl (by decide) rfl (fun ls hl => ?_)
  refine lv_iload_n hx hb dJi_bitCount_41 rfl (lv_at hl 0 rfl) ?_
  refine lv_iload_n hx hb dJi_bitCount_42 rfl (lv_at hl 0 rfl) ?_
  refine lv_bipush (v := nI 16) hx hb dJi_bitCount_43 (by decide) ?_
  refine lv_iushr hx hb dJi_bitCount_45 rfl ?_
  refine lv_iadd hx hb dJi_bitCount_46 ?_
  refine lv_istore_n (lv' := [(0, .int ((((((((nI a) - ((((nI a).toUInt32 >>> ((nI 1).toUInt32 &&& Int32.toUInt32 31)).toInt32) &&& (nI 1431655765))) &&& (nI 858993459)) + (((((nI a) - ((((nI a).toUInt32 >>> ((nI 1).toUInt32 &&& Int32.toUInt32 31)).toInt32) &&& (nI 1431655765))).toUInt32 >>> ((nI 2).toUInt32 &&& Int32.toUInt32 31)).toInt32) &&& (nI 858993459))) + ((((((nI a) - ((((nI a).toUInt32 >>> ((nI 1).toUInt32 &&& Int32.toUInt32 31)).toInt32) &&& (nI 1431655765))) &&& (nI 858993459)) + (((((nI a) - ((((nI a).toUInt32 >>> ((nI 1).toUInt32 &&& Int32.toUInt32 31)).toInt32) &&& (nI 1431655765))).toUInt32 >>> ((nI 2).toUInt32 &&& Int32.toUInt32 31)).toInt32) &&& (nI 858993459))).toUInt32 >>> ((nI 4).toUInt32 &&& Int32.toUInt32 31)).toInt32)) &&& (nI 252645135)) + ((((((((nI a) - ((((nI a).toUInt32 >>> ((nI 1).toUInt32 &&& Int32.toUInt32 31)).toInt32) &&& (nI 1431655765))) &&& (nI 858993459)) + (((((nI a) - ((((nI a).toUInt32 >>> ((nI 1).toUInt32 &&& Int32.toUInt32 31)).toInt32) &&& (nI 1431655765))).toUInt32 >>> ((nI 2).toUInt32 &&& Int32.toUInt32 31)).toInt32) &&& (nI 858993459))) + ((((((nI a) - ((((nI a).toUInt32 >>> ((nI 1).toUInt32 &&& Int32.toUInt32 31)).toInt32) &&& (nI 1431655765))) &&& (nI 858993459)) + (((((nI a) - ((((nI a).toUInt32 >>> ((nI 1).toUInt32 &&& Int32.toUInt32 31)).toInt32) &&& (nI 1431655765))).toUInt32 >>> ((nI 2).toUInt32 &&& Int32.toUInt32 31)).toInt32) &&& (nI 858993459))).toUInt32 >>> ((nI 4).toUInt32 &&& Int32.toUInt32 31)).toInt32)) &&& (nI 252645135)).toUInt32 >>> ((nI 8).toUInt32 &&& Int32.toUInt32 31)).toInt32)) + (((((((((nI a) - ((((nI a).toUInt32 >>> ((nI 1).toUInt32 &&& Int32.toUInt32 31)).toInt32) &&& (nI 1431655765))) &&& (nI 858993459)) + (((((nI a) - ((((nI a).toUInt32 >>> ((nI 1).toUInt32 &&& Int32.toUInt32 31)).toInt32) &&& (nI 1431655765))).toUInt32 >>> ((nI 2).toUInt32 &&& Int32.toUInt32 31)).toInt32) &&& (nI 858993459))) + ((((((nI a) - ((((nI a).toUInt32 >>> ((nI 1).toUInt32 &&& Int32.toUInt32 31)).toInt32) &&& (nI 1431655765))) &&& (nI 858993459)) + (((((nI a) - ((((nI a).toUInt32 >>> ((nI 1).toUInt32 &&& Int32.toUInt32 31)).toInt32) &&& (nI 1431655765))).toUInt32 >>> ((nI 2).toUInt32 &&& Int32.toUInt32 31)).toInt32) &&& (nI 858993459))).toUInt32 >>> ((nI 4).toUInt32 &&& Int32.toUInt32 31)).toInt32)) &&& (nI 252645135)) + ((((((((nI a) - ((((nI a).toUInt32 >>> ((nI 1).toUInt32 &&& Int32.toUInt32 31)).toInt32) &&& (nI 1431655765))) &&& (nI 858993459)) + (((((nI a) - ((((nI a).toUInt32 >>> ((nI 1).toUInt32 &&& Int32.toUInt32 31)).toInt32) &&& (nI 1431655765))).toUInt32 >>> ((nI 2).toUInt32 &&& Int32.toUInt32 31)).toInt32) &&& (nI 858993459))) + ((((((nI a) - ((((nI a).toUInt32 >>> ((nI 1).toUInt32 &&& Int32.toUInt32 31)).toInt32) &&& (nI 1431655765))) &&& (nI 858993459)) + (((((nI a) - ((((nI a).toUInt32 >>> ((nI 1).toUInt32 &&& Int32.toUInt32 31)).toInt32) &&& (nI 1431655765))).toUInt32 >>> ((nI 2).toUInt32 &&& Int32.toUInt32 31)).toInt32) &&& (nI 858993459))).toUInt32 >>> ((nI 4).toUInt32 &&& Int32.toUInt32 31)).toInt32)) &&& (nI 252645135)).toUInt32 >>> ((nI 8).toUInt32 &&& Int32.toUInt32 31)).toInt32)).toUInt32 >>> ((nI 16).toUInt32 &&& Int32.toUInt32 31)).toInt32)))]) hx hb dJi_bitCount_47 rfl hl (by decide) rfl (fun ls hl => ?_)
  refine lv_iload_n hx hb dJi_bitCount_48 rfl (lv_at hl 0 rfl) ?_
  refine lv_bipush (v := nI 63) hx hb dJi_bitCount_49 (by decide) ?_
  refine lv_iand hx hb dJi_bitCount_51 ?_
  exact hret _ _ _ dJi_bitCount_52 (bitC a ha)
end
section
def rm_Graph_quotient : Room := { frames := 0, cells := 0, slots := 0, locals := 0 }
set_option maxHeartbeats 4000000 in
set_option maxRecDepth 100000 in
theorem c_Graph_quotient (l : Launch) (G : zG) (a b : Nat) (ha : a < 2 ^ 31) (hb0 : 0 < b) (hbb : b < 2 ^ 31) : Met l yGr_quotient (.code yGr_quotient cGr_quotient 2 (some .int) :: zT) rm_Graph_quotient (zPr G [.int (nI a), .int (nI b)] []) (k2_QcV (.int (nI (a / b)))) 0 0 (fun _ => False) := by
  refine z_metRi (by decide) (Nat.le_of_ble_eq_true rfl) (fun p e s m args below meth c ls Q Sf r hl hret => ?_)
  have Sf : CallFix p m c cGr_quotient 2 s args zT RGr := Sf
  have hx := Sf.1
  have hb := Sf.2.1
  have hown := Sf.2.2.2.1
  have hts := Sf.2.2.2.2
  have hl : lv_has ls 2 [(0, .int (nI a)), (1, .int (nI b))] := hl
  refine lv_iload_n hx hb dGr_quotient_0 rfl (lv_at hl 1 rfl) ?_
  refine z_ifleN (tgt := 10) hx hb hbb dGr_quotient_1 (by decide) (fun c1 => ?_) (fun c1 => ?_)
  · skip
    exact absurd c1 (by omega)
  · skip
    refine lv_iload_n hx hb dGr_quotient_4 rfl (lv_at hl 0 rfl) ?_
    refine lv_iload_n hx hb dGr_quotient_5 rfl (lv_at hl 1 rfl) ?_
    refine z_divN hx hb ha hb0 hbb dGr_quotient_6 ?_
    refine lv_goto (tgt := 11) hx hb dGr_quotient_7 (by decide) ?_
    exact hret _ _ _ dGr_quotient_11 (rfl)

def rm_Graph_remainder : Room := { frames := 0, cells := 0, slots := 0, locals := 0 }
set_option maxHeartbeats 4000000 in
set_option maxRecDepth 100000 in
theorem c_Graph_remainder (l : Launch) (G : zG) (a b : Nat) (ha : a < 2 ^ 31) (hb0 : 0 < b) (hbb : b < 2 ^ 31) : Met l yGr_remainder (.code yGr_remainder cGr_remainder 2 (some .int) :: zT) rm_Graph_remainder (zPr G [.int (nI a), .int (nI b)] []) (k2_QcV (.int (nI (a % b)))) 0 0 (fun _ => False) := by
  refine z_metRi (by decide) (Nat.le_of_ble_eq_true rfl) (fun p e s m args below meth c ls Q Sf r hl hret => ?_)
  have Sf : CallFix p m c cGr_remainder 2 s args zT RGr := Sf
  have hx := Sf.1
  have hb := Sf.2.1
  have hown := Sf.2.2.2.1
  have hts := Sf.2.2.2.2
  have hl : lv_has ls 2 [(0, .int (nI a)), (1, .int (nI b))] := hl
  refine lv_iload_n hx hb dGr_remainder_0 rfl (lv_at hl 1 rfl) ?_
  refine z_ifleN (tgt := 10) hx hb hbb dGr_remainder_1 (by decide) (fun c1 => ?_) (fun c1 => ?_)
  · skip
    exact absurd c1 (by omega)
  · skip
    refine lv_iload_n hx hb dGr_remainder_4 rfl (lv_at hl 0 rfl) ?_
    refine lv_iload_n hx hb dGr_remainder_5 rfl (lv_at hl 1 rfl) ?_
    refine z_remN hx hb ha hb0 hbb dGr_remainder_6 ?_
    refine lv_goto (tgt := 11) hx hb dGr_remainder_7 (by decide) ?_
    exact hret _ _ _ dGr_remainder_11 (rfl)

def rm_Graph_knows : Room := { frames := 0, cells := 0, slots := 0, locals := 0 }
set_option maxHeartbeats 4000000 in
set_option maxRecDepth 100000 in
theorem c_Graph_knows (l : Launch) (G : zG) (g av an : Nat) (n : Nat) (st : Int32) (x : Int32)  : Met l yGr_knows (.code yGr_knows cGr_knows 2 (some .boolean) :: zT) rm_Graph_knows (zPr G [.ref g, .int x] [(g, zO 2 [.ref av, .ref an, .int (nI n), .int st])]) (k2_QcV (.int (bI (knP x n)))) 0 0 (fun _ => False) := by
  refine z_metRz (by decide) (Nat.le_of_ble_eq_true rfl) (fun p e s m args below meth c ls Q Sf r hl hret => ?_)
  have Sf : CallFix p m c cGr_knows 2 s args zT RGr := Sf
  have hx := Sf.1
  have hb := Sf.2.1
  have hown := Sf.2.2.2.1
  have hts := Sf.2.2.2.2
  have hl : lv_has ls 2 [(0, .ref g), (1, .int x)] := hl
  refine lv_iload_n hx hb dGr_knows_0 rfl (lv_at hl 1 rfl) ?_
  refine lv_if_lt (tgt := 16) hx hb dGr_knows_1 (by decide) (fun c1 => ?_) (fun c1 => ?_)
  · skip
    refine lv_iconst (v := (nI 0)) hx hb dGr_knows_16 (by decide) ?_
    exact hret _ _ _ dGr_knows_17 (bI_f (fun h => by first | exact h.1 c1 | exact h.2 c9))
  · skip
    refine lv_iload_n hx hb dGr_knows_4 rfl (lv_at hl 1 rfl) ?_
    refine lv_aload_n hx hb dGr_knows_5 rfl (lv_at hl 0 rfl) ?_
    refine gf_Gr_22 Sf r 0 rfl rfl dGr_knows_6 ?_
    refine lv_icmp_ge (tgt := 16) hx hb dGr_knows_9 (by decide) (fun c9 => ?_) (fun c9 => ?_)
    · skip
      refine lv_iconst (v := (nI 0)) hx hb dGr_knows_16 (by decide) ?_
      exact hret _ _ _ dGr_knows_17 (bI_f (fun h => by first | exact h.1 c1 | exact h.2 c9))
    · skip
      refine lv_iconst (v := (nI 1)) hx hb dGr_knows_12 (by decide) ?_
      refine lv_goto (tgt := 17) hx hb dGr_knows_13 (by decide) ?_
      exact hret _ _ _ dGr_knows_17 (bI_t ⟨c1, c9⟩)

def rm_Graph_knowsAll : Room := { frames := 0, cells := 0, slots := 0, locals := 0 }
set_option maxHeartbeats 4000000 in
set_option maxRecDepth 100000 in
theorem c_Graph_knowsAll (l : Launch) (G : zG) (g av an : Nat) (n : Nat) (st : Int32) (x : Int32)  : Met l yGr_knowsAll (.code yGr_knowsAll cGr_knowsAll 2 (some .boolean) :: zT) rm_Graph_knowsAll (zPr G [.ref g, .int x] [(g, zO 2 [.ref av, .ref an, .int (nI n), .int st])]) (k2_QcV (.int (bI (kaP x n)))) 0 0 (fun _ => False) := by
  refine z_metRz (by decide) (Nat.le_of_ble_eq_true rfl) (fun p e s m args below meth c ls Q Sf r hl hret => ?_)
  have Sf : CallFix p m c cGr_knowsAll 2 s args zT RGr := Sf
  have hx := Sf.1
  have hb := Sf.2.1
  have hown := Sf.2.2.2.1
  have hts := Sf.2.2.2.2
  have hl : lv_has ls 2 [(0, .ref g), (1, .int x)] := hl
  refine lv_iload_n hx hb dGr_knowsAll_0 rfl (lv_at hl 1 rfl) ?_
  refine lv_if_lt (tgt := 17) hx hb dGr_knowsAll_1 (by decide) (fun c1 => ?_) (fun c1 => ?_)
  · skip
    refine lv_iconst (v := (nI 0)) hx hb dGr_knowsAll_17 (by decide) ?_
    exact hret _ _ _ dGr_knowsAll_18 (bI_f (fun h => by first | exact h.1 c1 | exact c10 h.2))
  · skip
    refine lv_iload_n hx hb dGr_knowsAll_4 rfl (lv_at hl 1 rfl) ?_
    refine lv_aload_n hx hb dGr_knowsAll_5 rfl (lv_at hl 0 rfl) ?_
    refine gf_Gr_22 Sf r 0 rfl rfl dGr_knowsAll_6 ?_
    refine lv_ishr hx hb dGr_knowsAll_9 ?_
    refine lv_if_ne (tgt := 17) hx hb dGr_knowsAll_10 (by decide) (fun c10 => ?_) (fun c10 => ?_)
    · skip
      refine lv_iconst (v := (nI 0)) hx hb dGr_knowsAll_17 (by decide) ?_
      exact hret _ _ _ dGr_knowsAll_18 (bI_f (fun h => by first | exact h.1 c1 | exact c10 h.2))
    · skip
      refine lv_iconst (v := (nI 1)) hx hb dGr_knowsAll_13 (by decide) ?_
      refine lv_goto (tgt := 18) hx hb dGr_knowsAll_14 (by decide) ?_
      exact hret _ _ _ dGr_knowsAll_18 (bI_t ⟨c1, c10⟩)

def rm_Graph_hasValue : Room := { frames := 0, cells := 0, slots := 0, locals := 0 }
set_option maxHeartbeats 4000000 in
set_option maxRecDepth 100000 in
theorem c_Graph_hasValue (l : Launch) (G : zG) (g av an : Nat) (n : Nat) (st : Int32) (V : Nat → Nat) (k : Nat) (x : Int32) (hk : k < 12) : Met l yGr_hasValue (.code yGr_hasValue cGr_hasValue 3 (some .boolean) :: zT) rm_Graph_hasValue (zPr G [.ref g, .int (nI k), .int x] [(g, zO 2 [.ref av, .ref an, .int (nI n), .int st]), (av, zI G 12 (fun j => nI (V j)))]) (k2_QcV (.int (bI (knP x (V k))))) 0 0 (fun _ => False) := by
  refine z_metRz (by decide) (Nat.le_of_ble_eq_true rfl) (fun p e s m args below meth c ls Q Sf r hl hret => ?_)
  have Sf : CallFix p m c cGr_hasValue 3 s args zT RGr := Sf
  have hx := Sf.1
  have hb := Sf.2.1
  have hown := Sf.2.2.2.1
  have hts := Sf.2.2.2.2
  have hl : lv_has ls 3 [(0, .ref g), (1, .int (nI k)), (2, .int x)] := hl
  refine lv_iload_n hx hb dGr_hasValue_0 rfl (lv_at hl 2 rfl) ?_
  refine lv_if_lt (tgt := 18) hx hb dGr_hasValue_1 (by decide) (fun c1 => ?_) (fun c1 => ?_)
  · skip
    refine lv_iconst (v := (nI 0)) hx hb dGr_hasValue_18 (by decide) ?_
    exact hret _ _ _ dGr_hasValue_19 (bI_f (fun h => by first | exact h.1 c1 | exact h.2 c11))
  · skip
    refine lv_iload_n hx hb dGr_hasValue_4 rfl (lv_at hl 2 rfl) ?_
    refine lv_aload_n hx hb dGr_hasValue_5 rfl (lv_at hl 0 rfl) ?_
    refine gf_Gr_9 Sf r 0 rfl rfl dGr_hasValue_6 ?_
    refine lv_iload_n hx hb dGr_hasValue_9 rfl (lv_at hl 1 rfl) ?_
    refine z_iald hx hb r 1 (k := k) rfl (by omega) (by omega) dGr_hasValue_10 ?_
    refine lv_icmp_ge (tgt := 18) hx hb dGr_hasValue_11 (by decide) (fun c11 => ?_) (fun c11 => ?_)
    · skip
      refine lv_iconst (v := (nI 0)) hx hb dGr_hasValue_18 (by decide) ?_
      exact hret _ _ _ dGr_hasValue_19 (bI_f (fun h => by first | exact h.1 c1 | exact h.2 c11))
    · skip
      refine lv_iconst (v := (nI 1)) hx hb dGr_hasValue_14 (by decide) ?_
      refine lv_goto (tgt := 19) hx hb dGr_hasValue_15 (by decide) ?_
      exact hret _ _ _ dGr_hasValue_19 (bI_t ⟨c1, c11⟩)

def rm_Graph_everyName : Room := { frames := 0, cells := 0, slots := 0, locals := 0 }
set_option maxHeartbeats 4000000 in
set_option maxRecDepth 100000 in
theorem c_Graph_everyName (l : Launch) (G : zG) (g av an : Nat) (n : Nat) (st : Int32) (hn : n ≤ 12) : Met l yGr_everyName (.code yGr_everyName cGr_everyName 1 (some .int) :: zT) rm_Graph_everyName (zPr G [.ref g] [(g, zO 2 [.ref av, .ref an, .int (nI n), .int st])]) (k2_QcV (.int (nI (2 ^ n - 1)))) 0 0 (fun _ => False) := by
  refine z_metRi (by decide) (Nat.le_of_ble_eq_true rfl) (fun p e s m args below meth c ls Q Sf r hl hret => ?_)
  have Sf : CallFix p m c cGr_everyName 1 s args zT RGr := Sf
  have hx := Sf.1
  have hb := Sf.2.1
  have hown := Sf.2.2.2.1
  have hts := Sf.2.2.2.2
  have hl : lv_has ls 1 [(0, .ref g)] := hl
  refine lv_iconst (v := (nI 1)) hx hb dGr_everyName_0 (by decide) ?_
  refine lv_aload_n hx hb dGr_everyName_1 rfl (lv_at hl 0 rfl) ?_
  refine gf_Gr_22 Sf r 0 rfl rfl dGr_everyName_2 ?_
  refine z_shl1 hx hb (by omega) dGr_everyName_5 ?_
  refine lv_iconst (v := (nI 1)) hx hb dGr_everyName_6 (by decide) ?_
  refine z_subN hx hb Nat.one_le_two_pow dGr_everyName_7 ?_
  exact hret _ _ _ dGr_everyName_8 (rfl)

def rm_Graph_cellsOf : Room := { frames := 0, cells := 0, slots := 0, locals := 0 }
set_option maxHeartbeats 4000000 in
set_option maxRecDepth 100000 in
theorem c_Graph_cellsOf (l : Launch) (G : zG) (g av an : Nat) (n : Nat) (st : Int32) (V : Nat → Nat) (S : Nat) (hn : n ≤ 12) (hS : S < 2 ^ 31) : Met l yGr_cellsOf (.code yGr_cellsOf cGr_cellsOf 4 (some .int) :: zT) rm_Graph_cellsOf (zPr G [.ref g, .int (nI S)] [(g, zO 2 [.ref av, .ref an, .int (nI n), .int st]), (av, zI G 12 (fun j => nI (V j)))]) (k2_QcV (.int (nI (cellsF V S n)))) 0 0 (fun _ => False) := by
  refine z_metRi (by decide) (Nat.le_of_ble_eq_true rfl) (fun p e s m args below meth c ls Q Sf r hl hret => ?_)
  have Sf : CallFix p m c cGr_cellsOf 4 s args zT RGr := Sf
  have hx := Sf.1
  have hb := Sf.2.1
  have hown := Sf.2.2.2.1
  have hts := Sf.2.2.2.2
  have hl : lv_has ls 4 [(0, .ref g), (1, .int (nI S))] := hl
  refine lv_iconst (v := (nI 1)) hx hb dGr_cellsOf_0 (by decide) ?_
  refine lv_istore_n (lv' := [(2, .int (nI 1)), (0, .ref g), (1, .int (nI S))]) hx hb dGr_cellsOf_1 rfl hl (by decide) rfl (fun ls hl => ?_)
  refine lv_iconst (v := (nI 0)) hx hb dGr_cellsOf_2 (by decide) ?_
  refine lv_istore_n (lv' := [(3, .int (nI 0)), (2, .int (nI 1)), (0, .ref g), (1, .int (nI S))]) hx hb dGr_cellsOf_3 rfl hl (by decide) rfl (fun ls hl => ?_)
  have L4 : ∀ (fu4 : Nat) (i a : Nat), (i ≤ n) → (a = cellsF V S i) → (n - i) < fu4 → ∀ (ls : Array Slot), lv_has ls 4 [(3, .int (nI i)), (2, .int (nI a)), (0, .ref g), (1, .int (nI S))] → W p l e rm_Graph_cellsOf s m args below meth c s.heap [] 0 0 Q (F0 m 4 ls []) := by
    intro fu4
    induction fu4 with
    | zero =>
      intro i a hi ha hm4
      exact absurd hm4 (Nat.not_lt_zero _)
    | succ fu4 ih4 =>
      intro i a hi ha hm4 ls hl
      refine lv_iload_n hx hb dGr_cellsOf_4 rfl (lv_at hl 0 rfl) ?_
      refine lv_aload_n hx hb dGr_cellsOf_5 rfl (lv_at hl 2 rfl) ?_
      refine gf_Gr_22 Sf r 0 rfl rfl dGr_cellsOf_6 ?_
      refine z_icmpge (tgt := 35) hx hb (by omega) (by omega) dGr_cellsOf_9 (by decide) (fun c9 => ?_) (fun c9 => ?_)
      · skip
        refine lv_iload_n hx hb dGr_cellsOf_35 rfl (lv_at hl 1 rfl) ?_
        exact hret _ _ _ dGr_cellsOf_36 (by rw [ha, show i = n by omega])
      · skip
        refine lv_iload_n hx hb dGr_cellsOf_12 rfl (lv_at hl 3 rfl) ?_
        refine lv_iconst (v := (nI 1)) hx hb dGr_cellsOf_13 (by decide) ?_
        refine lv_iload_n hx hb dGr_cellsOf_14 rfl (lv_at hl 0 rfl) ?_
        refine z_shl1 hx hb (by omega) dGr_cellsOf_15 ?_
        refine z_andN hx hb dGr_cellsOf_16 ?_
        refine z_ifeqbit (tgt := 29) hx hb (by omega) dGr_cellsOf_17 (by decide) (fun c17 => ?_) (fun c17 => ?_)
        · skip
          refine z_iinc (d := 1) (lv' := [(3, .int (nI (i + 1))), (2, .int (nI a)), (0, .ref g), (1, .int (nI S))]) hx hb dGr_cellsOf_29 hl (k := 0) rfl (by decide) (by decide) rfl (fun ls hl => ?_)
          refine lv_goto (tgt := 4) hx hb dGr_cellsOf_32 (by decide) ?_
          refine ih4 (i + 1) _ ?_ ?_ ?_ ls (lv_sub hl [0, 1, 2, 3] rfl)
          · omega
          · first | (rw [cellsF_t c17, ha]) | (rw [cellsF_f c17, ha])
          · omega
        · skip
          refine lv_iload_n hx hb dGr_cellsOf_20 rfl (lv_at hl 1 rfl) ?_
          refine lv_aload_n hx hb dGr_cellsOf_21 rfl (lv_at hl 2 rfl) ?_
          refine gf_Gr_9 Sf r 0 rfl rfl dGr_cellsOf_22 ?_
          refine lv_iload_n hx hb dGr_cellsOf_25 rfl (lv_at hl 0 rfl) ?_
          refine z_iald hx hb r 1 (k := i) rfl (by omega) (by omega) dGr_cellsOf_26 ?_
          refine z_mulN hx hb dGr_cellsOf_27 ?_
          refine lv_istore_n (lv' := [(2, .int (nI (a * (V i)))), (3, .int (nI i)), (0, .ref g), (1, .int (nI S))]) hx hb dGr_cellsOf_28 rfl hl (by decide) rfl (fun ls hl => ?_)
          refine z_iinc (d := 1) (lv' := [(3, .int (nI (i + 1))), (2, .int (nI (a * (V i)))), (0, .ref g), (1, .int (nI S))]) hx hb dGr_cellsOf_29 hl (k := 1) rfl (by decide) (by decide) rfl (fun ls hl => ?_)
          refine lv_goto (tgt := 4) hx hb dGr_cellsOf_32 (by decide) ?_
          refine ih4 (i + 1) (a * (V i)) ?_ ?_ ?_ ls (lv_sub hl [0, 1, 2, 3] rfl)
          · omega
          · first | (rw [cellsF_t c17, ha]) | (rw [cellsF_f c17, ha])
          · omega
  refine L4 ((n - 0) + 1) 0 1 ?_ ?_ ?_ ls (lv_sub hl [0, 1, 2, 3] rfl)
  · omega
  · rfl
  · exact Nat.lt_succ_self _

def rm_Graph_pairs : Room := { frames := 1, cells := 0, slots := 0, locals := 40 }
set_option maxHeartbeats 4000000 in
set_option maxRecDepth 100000 in
theorem c_Graph_pairs (l : Launch) (G : zG) (g av an : Nat) (n : Nat) (st : Int32) (Nb : Nat → Nat) (hn : n ≤ 12) (hN : ∀ i, Nb i < 4096) : Met l yGr_pairs (.code yGr_pairs cGr_pairs 3 (some .int) :: zT) rm_Graph_pairs (zPr G [.ref g] [(g, zO 2 [.ref av, .ref an, .int (nI n), .int st]), (an, zI G 12 (fun j => nI (Nb j)))]) (k2_QcV (.int (nI (popS Nb n / 2)))) 0 0 (fun _ => False) := by
  refine z_metRi (by decide) (Nat.le_of_ble_eq_true rfl) (fun p e s m args below meth c ls Q Sf r hl hret => ?_)
  have Sf : CallFix p m c cGr_pairs 3 s args zT RGr := Sf
  have hx := Sf.1
  have hb := Sf.2.1
  have hown := Sf.2.2.2.1
  have hts := Sf.2.2.2.2
  have hl : lv_has ls 3 [(0, .ref g)] := hl
  refine lv_iconst (v := (nI 0)) hx hb dGr_pairs_0 (by decide) ?_
  refine lv_istore_n (lv' := [(1, .int (nI 0)), (0, .ref g)]) hx hb dGr_pairs_1 rfl hl (by decide) rfl (fun ls hl => ?_)
  refine lv_iconst (v := (nI 0)) hx hb dGr_pairs_2 (by decide) ?_
  refine lv_istore_n (lv' := [(2, .int (nI 0)), (1, .int (nI 0)), (0, .ref g)]) hx hb dGr_pairs_3 rfl hl (by decide) rfl (fun ls hl => ?_)
  have L4 : ∀ (fu4 : Nat) (i a : Nat), (i ≤ n) → (a = popS Nb i) → (n - i) < fu4 → ∀ (ls : Array Slot), lv_has ls 3 [(2, .int (nI i)), (1, .int (nI a)), (0, .ref g)] → W p l e rm_Graph_pairs s m args below meth c s.heap [] 0 0 Q (F0 m 4 ls []) := by
    intro fu4
    induction fu4 with
    | zero =>
      intro i a hi ha hm4
      exact absurd hm4 (Nat.not_lt_zero _)
    | succ fu4 ih4 =>
      intro i a hi ha hm4 ls hl
      refine lv_iload_n hx hb dGr_pairs_4 rfl (lv_at hl 0 rfl) ?_
      refine lv_aload_n hx hb dGr_pairs_5 rfl (lv_at hl 2 rfl) ?_
      refine gf_Gr_22 Sf r 0 rfl rfl dGr_pairs_6 ?_
      refine z_icmpge (tgt := 30) hx hb (by omega) (by omega) dGr_pairs_9 (by decide) (fun c9 => ?_) (fun c9 => ?_)
      · skip
        refine lv_iload_n hx hb dGr_pairs_30 rfl (lv_at hl 1 rfl) ?_
        refine lv_iconst (v := (nI 2)) hx hb dGr_pairs_31 (by decide) ?_
        refine z_divN hx hb (by have := popS_le hN i; omega) (by omega) (by omega) dGr_pairs_32 ?_
        exact hret _ _ _ dGr_pairs_33 (by rw [ha, show i = n by omega])
      · skip
        refine lv_iload_n hx hb dGr_pairs_12 rfl (lv_at hl 1 rfl) ?_
        refine lv_aload_n hx hb dGr_pairs_13 rfl (lv_at hl 2 rfl) ?_
        refine gf_Gr_15 Sf r 0 rfl rfl dGr_pairs_14 ?_
        refine lv_iload_n hx hb dGr_pairs_17 rfl (lv_at hl 0 rfl) ?_
        refine z_iald hx hb r 1 (k := i) rfl (by omega) (by omega) dGr_pairs_18 ?_
        refine z_rS (As := [.int (nI (Nb i))]) (rest := [.int (nI a)]) Sf (c_bitCount l G (Nb i) (hN i)) mv_Gr_25 ⟨rfl, rfl⟩ ⟨Nat.le_of_ble_eq_true rfl, Nat.le_of_ble_eq_true rfl⟩ r [] rfl rfl hl.1 rfl (Nat.le_of_ble_eq_true rfl) dGr_pairs_19 ⟨Nat.le_of_ble_eq_true rfl, Nat.le_of_ble_eq_true rfl⟩ ?_
        refine z_addN hx hb dGr_pairs_22 ?_
        refine lv_istore_n (lv' := [(1, .int (nI (a + (popc (Nb i))))), (2, .int (nI i)), (0, .ref g)]) hx hb dGr_pairs_23 rfl hl (by decide) rfl (fun ls hl => ?_)
        refine z_iinc (d := 1) (lv' := [(2, .int (nI (i + 1))), (1, .int (nI (a + (popc (Nb i))))), (0, .ref g)]) hx hb dGr_pairs_24 hl (k := 1) rfl (by decide) (by decide) rfl (fun ls hl => ?_)
        refine lv_goto (tgt := 4) hx hb dGr_pairs_27 (by decide) ?_
        refine ih4 (i + 1) (a + (popc (Nb i))) ?_ ?_ ?_ ls (lv_sub hl [0, 1, 2] rfl)
        · omega
        · rw [ha]; rfl
        · omega
  refine L4 ((n - 0) + 1) 0 0 ?_ ?_ ?_ ls (lv_sub hl [0, 1, 2] rfl)
  · omega
  · rfl
  · exact Nat.lt_succ_self _

def rm_Graph_reached : Room := { frames := 1, cells := 0, slots := 0, locals := 40 }
set_option maxHeartbeats 4000000 in
set_option maxRecDepth 100000 in
theorem c_Graph_reached (l : Launch) (G : zG) (g av an : Nat) (n : Nat) (st : Int32) (Nb : Nat → Nat) (f I : Nat) (hn : n ≤ 12) (hf : f < n) (hN : ∀ i, Nb i < 4096) : Met l yGr_reached (.code yGr_reached cGr_reached 8 (some .int) :: zT) rm_Graph_reached (zPr G [.ref g, .int (nI f), .int (nI I)] [(g, zO 2 [.ref av, .ref an, .int (nI n), .int st]), (an, zI G 12 (fun j => nI (Nb j)))]) (k2_QcV (.int (nI (rchF Nb n f I)))) 0 0 (fun _ => False) := by
  refine z_metRi (by decide) (Nat.le_of_ble_eq_true rfl) (fun p e s m args below meth c ls Q Sf r hl hret => ?_)
  have Sf : CallFix p m c cGr_reached 8 s args zT RGr := Sf
  have hx := Sf.1
  have hb := Sf.2.1
  have hown := Sf.2.2.2.1
  have hts := Sf.2.2.2.2
  have hl : lv_has ls 8 [(0, .ref g), (1, .int (nI f)), (2, .int (nI I))] := hl
  refine lv_aload_n hx hb dGr_reached_0 rfl (lv_at hl 0 rfl) ?_
  refine gf_Gr_15 Sf r 0 rfl rfl dGr_reached_1 ?_
  refine lv_iload_n hx hb dGr_reached_4 rfl (lv_at hl 1 rfl) ?_
  refine z_iald hx hb r 1 (k := f) rfl (by omega) (by omega) dGr_reached_5 ?_
  refine lv_iconst (v := (nI 1)) hx hb dGr_reached_6 (by decide) ?_
  refine lv_iload_n hx hb dGr_reached_7 rfl (lv_at hl 1 rfl) ?_
  refine z_shl1 hx hb (by omega) dGr_reached_8 ?_
  refine z_orN hx hb dGr_reached_9 ?_
  refine lv_istore_n (lv' := [(3, .int (nI ((Nb f) ||| (2 ^ f)))), (0, .ref g), (1, .int (nI f)), (2, .int (nI I))]) hx hb dGr_reached_10 rfl hl (by decide) rfl (fun ls hl => ?_)
  refine lv_iconst (v := (nI 0)) hx hb dGr_reached_11 (by decide) ?_
  refine lv_istore (lv' := [(4, .int (nI 0)), (3, .int (nI ((Nb f) ||| (2 ^ f)))), (0, .ref g), (1, .int (nI f)), (2, .int (nI I))]) hx hb dGr_reached_12 hl (by decide) rfl (fun ls hl => ?_)
  refine lv_iconst (v := (nI 0)) hx hb dGr_reached_14 (by decide) ?_
  refine lv_istore (lv' := [(5, .int (nI 0)), (4, .int (nI 0)), (3, .int (nI ((Nb f) ||| (2 ^ f)))), (0, .ref g), (1, .int (nI f)), (2, .int (nI I))]) hx hb dGr_reached_15 hl (by decide) rfl (fun ls hl => ?_)
  have L17 : ∀ (fu17 : Nat) (k sn ps : Nat), (k ≤ n) → (sn < 4096) → (rchL Nb I (n - k) sn ps = rchF Nb n f I) → (n - k) < fu17 → ∀ (ls : Array Slot), lv_has ls 8 [(5, .int (nI k)), (4, .int (nI ps)), (3, .int (nI sn)), (0, .ref g), (1, .int (nI f)), (2, .int (nI I))] → W p l e rm_Graph_reached s m args below meth c s.heap [] 0 0 Q (F0 m 17 ls []) := by
    intro fu17
    induction fu17 with
    | zero =>
      intro k sn ps hk hs hr hm17
      exact absurd hm17 (Nat.not_lt_zero _)
    | succ fu17 ih17 =>
      intro k sn ps hk hs hr hm17 ls hl
      refine lv_iload hx hb dGr_reached_17 (lv_at hl 0 rfl) ?_
      refine lv_aload_n hx hb dGr_reached_19 rfl (lv_at hl 3 rfl) ?_
      refine gf_Gr_22 Sf r 0 rfl rfl dGr_reached_20 ?_
      refine z_icmpge (tgt := 82) hx hb (by omega) (by omega) dGr_reached_23 (by decide) (fun c23 => ?_) (fun c23 => ?_)
      · skip
        refine lv_iload_n hx hb dGr_reached_82 rfl (lv_at hl 2 rfl) ?_
        exact hret _ _ _ dGr_reached_83 (by first | (rw [← hr, show n - k = (n - (k + 1)) + 1 by omega, rchL_0 c38]) | (rw [← hr, show n - k = 0 by omega]; rfl))
      · skip
        refine lv_iload_n hx hb dGr_reached_26 rfl (lv_at hl 2 rfl) ?_
        refine lv_iload_n hx hb dGr_reached_27 rfl (lv_at hl 5 rfl) ?_
        refine z_andN hx hb dGr_reached_28 ?_
        refine lv_iload hx hb dGr_reached_29 (lv_at hl 1 rfl) ?_
        refine lv_iconst (v := (-1)) hx hb dGr_reached_31 (by decide) ?_
        refine lv_ixor hx hb dGr_reached_32 ?_
        refine z_andC hx hb dGr_reached_33 ?_
        refine lv_istore (lv' := [(6, .int (nI (sdf (sn &&& I) ps))), (5, .int (nI k)), (4, .int (nI ps)), (3, .int (nI sn)), (0, .ref g), (1, .int (nI f)), (2, .int (nI I))]) hx hb dGr_reached_34 hl (by decide) rfl (fun ls hl => ?_)
        refine lv_iload hx hb dGr_reached_36 (lv_at hl 0 rfl) ?_
        refine z_ifneN (tgt := 44) hx hb (Nat.lt_trans (Nat.lt_of_le_of_lt (sdf_le _ _) (Nat.lt_of_le_of_lt Nat.and_le_left hs)) (by decide)) dGr_reached_38 (by decide) (fun c38 => ?_) (fun c38 => ?_)
        · skip
          have ho : sdf (sn &&& I) ps < 4096 := Nat.lt_of_le_of_lt (sdf_le _ _) (Nat.lt_of_le_of_lt Nat.and_le_left hs)
          have hz := tz_lt _ ho (Nat.pos_of_ne_zero c38)
          refine lv_iload hx hb dGr_reached_44 (lv_at hl 0 rfl) ?_
          refine lv_iload hx hb dGr_reached_46 (lv_at hl 0 rfl) ?_
          refine lv_ineg hx hb dGr_reached_48 ?_
          refine lv_iand hx hb dGr_reached_49 ?_
          refine lv_iconst (v := (nI 1)) hx hb dGr_reached_50 (by decide) ?_
          refine lv_isub hx hb dGr_reached_51 ?_
          rw [zb_low _ ho (Nat.pos_of_ne_zero c38)]
          refine z_rS (As := [.int (nI (2 ^ tz (sdf (sn &&& I) ps) - 1))]) (rest := []) Sf (c_bitCount l G (2 ^ tz (sdf (sn &&& I) ps) - 1) (Nat.lt_of_le_of_lt (Nat.sub_le _ _) (pw_lt hz))) mv_Gr_25 ⟨rfl, rfl⟩ ⟨Nat.le_of_ble_eq_true rfl, Nat.le_of_ble_eq_true rfl⟩ r [] rfl rfl hl.1 rfl (Nat.le_of_ble_eq_true rfl) dGr_reached_52 ⟨Nat.le_of_ble_eq_true rfl, Nat.le_of_ble_eq_true rfl⟩ ?_
          rw [popc_low _ hz]
          refine lv_istore (lv' := [(7, .int (nI (tz (sdf (sn &&& I) ps)))), (6, .int (nI (sdf (sn &&& I) ps))), (5, .int (nI k)), (4, .int (nI ps)), (3, .int (nI sn)), (0, .ref g), (1, .int (nI f)), (2, .int (nI I))]) hx hb dGr_reached_55 hl (by decide) rfl (fun ls hl => ?_)
          refine lv_iload hx hb dGr_reached_57 (lv_at hl 3 rfl) ?_
          refine lv_iconst (v := (nI 1)) hx hb dGr_reached_59 (by decide) ?_
          refine lv_iload hx hb dGr_reached_60 (lv_at hl 0 rfl) ?_
          refine z_shl1 hx hb (by omega) dGr_reached_62 ?_
          refine z_orN hx hb dGr_reached_63 ?_
          refine lv_istore (lv' := [(4, .int (nI (ps ||| (2 ^ (tz (sdf (sn &&& I) ps)))))), (7, .int (nI (tz (sdf (sn &&& I) ps)))), (6, .int (nI (sdf (sn &&& I) ps))), (5, .int (nI k)), (3, .int (nI sn)), (0, .ref g), (1, .int (nI f)), (2, .int (nI I))]) hx hb dGr_reached_64 hl (by decide) rfl (fun ls hl => ?_)
          refine lv_iload_n hx hb dGr_reached_66 rfl (lv_at hl 4 rfl) ?_
          refine lv_aload_n hx hb dGr_reached_67 rfl (lv_at hl 5 rfl) ?_
          refine gf_Gr_15 Sf r 0 rfl rfl dGr_reached_68 ?_
          refine lv_iload hx hb dGr_reached_71 (lv_at hl 1 rfl) ?_
          refine z_iald hx hb r 1 (k := (tz (sdf (sn &&& I) ps))) rfl (by omega) (by omega) dGr_reached_73 ?_
          refine z_orN hx hb dGr_reached_74 ?_
          refine lv_istore_n (lv' := [(3, .int (nI (sn ||| (Nb (tz (sdf (sn &&& I) ps)))))), (4, .int (nI (ps ||| (2 ^ (tz (sdf (sn &&& I) ps)))))), (7, .int (nI (tz (sdf (sn &&& I) ps)))), (6, .int (nI (sdf (sn &&& I) ps))), (5, .int (nI k)), (0, .ref g), (1, .int (nI f)), (2, .int (nI I))]) hx hb dGr_reached_75 rfl hl (by decide) rfl (fun ls hl => ?_)
          refine z_iinc (d := 1) (lv' := [(5, .int (nI (k + 1))), (3, .int (nI (sn ||| (Nb (tz (sdf (sn &&& I) ps)))))), (4, .int (nI (ps ||| (2 ^ (tz (sdf (sn &&& I) ps)))))), (7, .int (nI (tz (sdf (sn &&& I) ps)))), (6, .int (nI (sdf (sn &&& I) ps))), (0, .ref g), (1, .int (nI f)), (2, .int (nI I))]) hx hb dGr_reached_76 hl (k := 4) rfl (by decide) (by decide) rfl (fun ls hl => ?_)
          refine lv_goto (tgt := 17) hx hb dGr_reached_79 (by decide) ?_
          refine ih17 (k + 1) (sn ||| (Nb (tz (sdf (sn &&& I) ps)))) (ps ||| (2 ^ (tz (sdf (sn &&& I) ps)))) ?_ ?_ ?_ ?_ ls (lv_sub hl [0, 2, 1, 5, 6, 7] rfl)
          · omega
          · exact or_lt hs (hN _)
          · rw [← hr, show n - k = (n - (k + 1)) + 1 by omega, rchL_s c38]
          · omega
        · skip
          refine lv_goto (tgt := 82) hx hb dGr_reached_41 (by decide) ?_
          refine lv_iload_n hx hb dGr_reached_82 rfl (lv_at hl 3 rfl) ?_
          exact hret _ _ _ dGr_reached_83 (by first | (rw [← hr, show n - k = (n - (k + 1)) + 1 by omega, rchL_0 c38]) | (rw [← hr, show n - k = 0 by omega]; rfl))
  refine L17 ((n - 0) + 1) 0 ((Nb f) ||| (2 ^ f)) 0 ?_ ?_ ?_ ?_ ls (lv_sub hl [0, 1, 2, 3, 4, 5] rfl)
  · omega
  · exact or_lt (hN f) (pw_lt (by omega))
  · rfl
  · exact Nat.lt_succ_self _

def rm_Graph_bagOf : Room := { frames := 2, cells := 0, slots := 0, locals := 80 }
set_option maxHeartbeats 4000000 in
set_option maxRecDepth 100000 in
theorem c_Graph_bagOf (l : Launch) (G : zG) (g av an : Nat) (n : Nat) (st : Int32) (Nb : Nat → Nat) (f gone : Nat) (hn : n ≤ 12) (hf : f < n) (hN : ∀ i, Nb i < 4096) : Met l yGr_bagOf (.code yGr_bagOf cGr_bagOf 3 (some .int) :: zT) rm_Graph_bagOf (zPr G [.ref g, .int (nI f), .int (nI gone)] [(g, zO 2 [.ref av, .ref an, .int (nI n), .int st]), (an, zI G 12 (fun j => nI (Nb j)))]) (k2_QcV (.int (nI (bagF Nb n f gone)))) 0 0 (fun _ => False) := by
  refine z_metRi (by decide) (Nat.le_of_ble_eq_true rfl) (fun p e s m args below meth c ls Q Sf r hl hret => ?_)
  have Sf : CallFix p m c cGr_bagOf 3 s args zT RGr := Sf
  have hx := Sf.1
  have hb := Sf.2.1
  have hown := Sf.2.2.2.1
  have hts := Sf.2.2.2.2
  have hl : lv_has ls 3 [(0, .ref g), (1, .int (nI f)), (2, .int (nI gone))] := hl
  refine lv_aload_n hx hb dGr_bagOf_0 rfl (lv_at hl 0 rfl) ?_
  refine lv_iload_n hx hb dGr_bagOf_1 rfl (lv_at hl 1 rfl) ?_
  refine lv_iload_n hx hb dGr_bagOf_2 rfl (lv_at hl 2 rfl) ?_
  refine z_rV (As := [.int (nI f), .int (nI gone)]) (rest := []) Sf (c_Graph_reached l G g av an n st Nb f gone (by first | assumption | omega) (by first | assumption | omega) (by first | assumption | omega)) mv_Gr_31 ⟨rfl, rfl⟩ ⟨Nat.le_of_ble_eq_true rfl, Nat.le_of_ble_eq_true rfl⟩ r [0, 1] rfl 0 rfl rfl rfl rfl hl.1 rfl (Nat.le_of_ble_eq_true rfl) dGr_bagOf_3 ⟨Nat.le_of_ble_eq_true rfl, Nat.le_of_ble_eq_true rfl⟩ ?_
  refine lv_iload_n hx hb dGr_bagOf_6 rfl (lv_at hl 2 rfl) ?_
  refine lv_iconst (v := (-1)) hx hb dGr_bagOf_7 (by decide) ?_
  refine lv_ixor hx hb dGr_bagOf_8 ?_
  refine z_andC hx hb dGr_bagOf_9 ?_
  exact hret _ _ _ dGr_bagOf_10 (rfl)

def rm_Graph_fillOf : Room := { frames := 2, cells := 0, slots := 0, locals := 80 }
set_option maxHeartbeats 4000000 in
set_option maxRecDepth 100000 in
theorem c_Graph_fillOf (l : Launch) (G : zG) (g av an : Nat) (n : Nat) (st : Int32) (Nb : Nat → Nat) (bag gone : Nat) (hn : n ≤ 12) (hb4 : bag < 4096) (hN : ∀ i, Nb i < 4096) : Met l yGr_fillOf (.code yGr_fillOf cGr_fillOf 5 (some .int) :: zT) rm_Graph_fillOf (zPr G [.ref g, .int (nI bag), .int (nI gone)] [(g, zO 2 [.ref av, .ref an, .int (nI n), .int st]), (an, zI G 12 (fun j => nI (Nb j)))]) (k2_QcV (.int (nI (fillS Nb n bag gone n / 2)))) 0 0 (fun _ => False) := by
  refine z_metRi (by decide) (Nat.le_of_ble_eq_true rfl) (fun p e s m args below meth c ls Q Sf r hl hret => ?_)
  have Sf : CallFix p m c cGr_fillOf 5 s args zT RGr := Sf
  have hx := Sf.1
  have hb := Sf.2.1
  have hown := Sf.2.2.2.1
  have hts := Sf.2.2.2.2
  have hl : lv_has ls 5 [(0, .ref g), (1, .int (nI bag)), (2, .int (nI gone))] := hl
  refine lv_iconst (v := (nI 0)) hx hb dGr_fillOf_0 (by decide) ?_
  refine lv_istore_n (lv' := [(3, .int (nI 0)), (0, .ref g), (1, .int (nI bag)), (2, .int (nI gone))]) hx hb dGr_fillOf_1 rfl hl (by decide) rfl (fun ls hl => ?_)
  refine lv_iconst (v := (nI 0)) hx hb dGr_fillOf_2 (by decide) ?_
  refine lv_istore (lv' := [(4, .int (nI 0)), (3, .int (nI 0)), (0, .ref g), (1, .int (nI bag)), (2, .int (nI gone))]) hx hb dGr_fillOf_3 hl (by decide) rfl (fun ls hl => ?_)
  have L5 : ∀ (fu5 : Nat) (i a : Nat), (i ≤ n) → (a = fillS Nb n bag gone i) → (n - i) < fu5 → ∀ (ls : Array Slot), lv_has ls 5 [(4, .int (nI i)), (3, .int (nI a)), (0, .ref g), (1, .int (nI bag)), (2, .int (nI gone))] → W p l e rm_Graph_fillOf s m args below meth c s.heap [] 0 0 Q (F0 m 5 ls []) := by
    intro fu5
    induction fu5 with
    | zero =>
      intro i a hi ha hm5
      exact absurd hm5 (Nat.not_lt_zero _)
    | succ fu5 ih5 =>
      intro i a hi ha hm5 ls hl
      refine lv_iload hx hb dGr_fillOf_5 (lv_at hl 0 rfl) ?_
      refine lv_aload_n hx hb dGr_fillOf_7 rfl (lv_at hl 2 rfl) ?_
      refine gf_Gr_22 Sf r 0 rfl rfl dGr_fillOf_8 ?_
      refine z_icmpge (tgt := 46) hx hb (by omega) (by omega) dGr_fillOf_11 (by decide) (fun c11 => ?_) (fun c11 => ?_)
      · skip
        refine lv_iload_n hx hb dGr_fillOf_46 rfl (lv_at hl 1 rfl) ?_
        refine lv_iconst (v := (nI 2)) hx hb dGr_fillOf_47 (by decide) ?_
        refine z_divN hx hb (by have := fillS_le (Nb := Nb) (n := n) (gone := gone) hb4 i; omega) (by omega) (by omega) dGr_fillOf_48 ?_
        exact hret _ _ _ dGr_fillOf_49 (by rw [ha, show i = n by omega])
      · skip
        refine lv_iload_n hx hb dGr_fillOf_14 rfl (lv_at hl 3 rfl) ?_
        refine lv_iconst (v := (nI 1)) hx hb dGr_fillOf_15 (by decide) ?_
        refine lv_iload hx hb dGr_fillOf_16 (lv_at hl 0 rfl) ?_
        refine z_shl1 hx hb (by omega) dGr_fillOf_18 ?_
        refine z_andN hx hb dGr_fillOf_19 ?_
        refine z_ifeqbit (tgt := 40) hx hb (by omega) dGr_fillOf_20 (by decide) (fun c20 => ?_) (fun c20 => ?_)
        · skip
          refine z_iinc (d := 1) (lv' := [(4, .int (nI (i + 1))), (3, .int (nI a)), (0, .ref g), (1, .int (nI bag)), (2, .int (nI gone))]) hx hb dGr_fillOf_40 hl (k := 0) rfl (by decide) (by decide) rfl (fun ls hl => ?_)
          refine lv_goto (tgt := 5) hx hb dGr_fillOf_43 (by decide) ?_
          refine ih5 (i + 1) _ ?_ ?_ ?_ ls (lv_sub hl [0, 1, 2, 3, 4] rfl)
          · omega
          · first | (rw [fillS_t c20, ha]) | (rw [fillS_f c20, ha])
          · omega
        · skip
          refine lv_iload_n hx hb dGr_fillOf_23 rfl (lv_at hl 1 rfl) ?_
          refine lv_iload_n hx hb dGr_fillOf_24 rfl (lv_at hl 3 rfl) ?_
          refine lv_aload_n hx hb dGr_fillOf_25 rfl (lv_at hl 2 rfl) ?_
          refine lv_iload hx hb dGr_fillOf_26 (lv_at hl 0 rfl) ?_
          refine lv_iload_n hx hb dGr_fillOf_28 rfl (lv_at hl 4 rfl) ?_
          refine z_rV (As := [.int (nI i), .int (nI gone)]) (rest := [.int (nI bag), .int (nI a)]) Sf (c_Graph_reached l G g av an n st Nb i gone (by first | assumption | omega) (by omega) (by first | assumption | omega)) mv_Gr_31 ⟨rfl, rfl⟩ ⟨Nat.le_of_ble_eq_true rfl, Nat.le_of_ble_eq_true rfl⟩ r [0, 1] rfl 0 rfl rfl rfl rfl hl.1 rfl (Nat.le_of_ble_eq_true rfl) dGr_fillOf_29 ⟨Nat.le_of_ble_eq_true rfl, Nat.le_of_ble_eq_true rfl⟩ ?_
          refine lv_iconst (v := (-1)) hx hb dGr_fillOf_32 (by decide) ?_
          refine lv_ixor hx hb dGr_fillOf_33 ?_
          refine z_andC hx hb dGr_fillOf_34 ?_
          refine z_rS (As := [.int (nI (sdf bag (rchF Nb n i gone)))]) (rest := [.int (nI a)]) Sf (c_bitCount l G (sdf bag (rchF Nb n i gone)) (Nat.lt_of_le_of_lt (sdf_le _ _) hb4)) mv_Gr_25 ⟨rfl, rfl⟩ ⟨Nat.le_of_ble_eq_true rfl, Nat.le_of_ble_eq_true rfl⟩ r [] rfl rfl hl.1 rfl (Nat.le_of_ble_eq_true rfl) dGr_fillOf_35 ⟨Nat.le_of_ble_eq_true rfl, Nat.le_of_ble_eq_true rfl⟩ ?_
          refine z_addN hx hb dGr_fillOf_38 ?_
          refine lv_istore_n (lv' := [(3, .int (nI (a + (popc (sdf bag (rchF Nb n i gone)))))), (4, .int (nI i)), (0, .ref g), (1, .int (nI bag)), (2, .int (nI gone))]) hx hb dGr_fillOf_39 rfl hl (by decide) rfl (fun ls hl => ?_)
          refine z_iinc (d := 1) (lv' := [(4, .int (nI (i + 1))), (3, .int (nI (a + (popc (sdf bag (rchF Nb n i gone)))))), (0, .ref g), (1, .int (nI bag)), (2, .int (nI gone))]) hx hb dGr_fillOf_40 hl (k := 1) rfl (by decide) (by decide) rfl (fun ls hl => ?_)
          refine lv_goto (tgt := 5) hx hb dGr_fillOf_43 (by decide) ?_
          refine ih5 (i + 1) (a + (popc (sdf bag (rchF Nb n i gone)))) ?_ ?_ ?_ ls (lv_sub hl [0, 1, 2, 3, 4] rfl)
          · omega
          · first | (rw [fillS_t c20, ha]) | (rw [fillS_f c20, ha])
          · omega
  refine L5 ((n - 0) + 1) 0 0 ?_ ?_ ?_ ls (lv_sub hl [0, 1, 2, 3, 4] rfl)
  · omega
  · rfl
  · exact Nat.lt_succ_self _

def rm_Graph_valueIn : Room := { frames := 1, cells := 0, slots := 0, locals := 40 }
set_option maxHeartbeats 4000000 in
set_option maxRecDepth 100000 in
theorem c_Graph_valueIn (l : Launch) (G : zG) (g av an : Nat) (n : Nat) (st : Int32) (V : Nat → Nat) (x i : Nat) (hn : n ≤ 12) (hi : i < n) (hx0 : x < 2 ^ 31) (hV : ∀ j, j < n → 0 < V j ∧ V j ≤ 4) : Met l yGr_valueIn (.code yGr_valueIn cGr_valueIn 5 (some .int) :: zT) rm_Graph_valueIn (zPr G [.ref g, .int (nI x), .int (nI i)] [(g, zO 2 [.ref av, .ref an, .int (nI n), .int st]), (av, zI G 12 (fun j => nI (V j)))]) (k2_QcV (.int (nI (valF V n x i)))) 0 0 (fun _ => False) := by
  refine z_metRi (by decide) (Nat.le_of_ble_eq_true rfl) (fun p e s m args below meth c ls Q Sf r hl hret => ?_)
  have Sf : CallFix p m c cGr_valueIn 5 s args zT RGr := Sf
  have hx := Sf.1
  have hb := Sf.2.1
  have hown := Sf.2.2.2.1
  have hts := Sf.2.2.2.2
  have hl : lv_has ls 5 [(0, .ref g), (1, .int (nI x)), (2, .int (nI i))] := hl
  refine lv_iload_n hx hb dGr_valueIn_0 rfl (lv_at hl 1 rfl) ?_
  refine lv_istore_n (lv' := [(3, .int (nI x)), (0, .ref g), (1, .int (nI x)), (2, .int (nI i))]) hx hb dGr_valueIn_1 rfl hl (by decide) rfl (fun ls hl => ?_)
  refine lv_aload_n hx hb dGr_valueIn_2 rfl (lv_at hl 1 rfl) ?_
  refine gf_Gr_22 Sf r 0 rfl rfl dGr_valueIn_3 ?_
  refine lv_iconst (v := (nI 1)) hx hb dGr_valueIn_6 (by decide) ?_
  refine z_subN hx hb (by omega) dGr_valueIn_7 ?_
  refine lv_istore (lv' := [(4, .int (nI (n - 1))), (3, .int (nI x)), (0, .ref g), (1, .int (nI x)), (2, .int (nI i))]) hx hb dGr_valueIn_8 hl (by decide) rfl (fun ls hl => ?_)
  have L10 : ∀ (fu10 : Nat) (k a : Nat), (k ≤ n - 1 - i) → (a = restF V n x k) → (n - k) < fu10 → ∀ (ls : Array Slot), lv_has ls 5 [(4, .int (nI (n - 1 - k))), (3, .int (nI a)), (0, .ref g), (1, .int (nI x)), (2, .int (nI i))] → W p l e rm_Graph_valueIn s m args below meth c s.heap [] 0 0 Q (F0 m 10 ls []) := by
    intro fu10
    induction fu10 with
    | zero =>
      intro k a hk ha hm10
      exact absurd hm10 (Nat.not_lt_zero _)
    | succ fu10 ih10 =>
      intro k a hk ha hm10 ls hl
      refine lv_iload hx hb dGr_valueIn_10 (lv_at hl 0 rfl) ?_
      refine lv_iload_n hx hb dGr_valueIn_12 rfl (lv_at hl 4 rfl) ?_
      refine z_icmple (tgt := 34) hx hb (by omega) (by omega) dGr_valueIn_13 (by decide) (fun c13 => ?_) (fun c13 => ?_)
      · skip
        have hax : a < 2 ^ 31 := Nat.lt_of_le_of_lt (ha ▸ restF_le k) hx0
        have hv := hV i hi
        refine lv_iload_n hx hb dGr_valueIn_34 rfl (lv_at hl 1 rfl) ?_
        refine lv_aload_n hx hb dGr_valueIn_35 rfl (lv_at hl 2 rfl) ?_
        refine gf_Gr_9 Sf r 0 rfl rfl dGr_valueIn_36 ?_
        refine lv_iload_n hx hb dGr_valueIn_39 rfl (lv_at hl 4 rfl) ?_
        refine z_iald hx hb r 1 (k := i) rfl (by omega) (by omega) dGr_valueIn_40 ?_
        refine z_rS (As := [.int (nI a), .int (nI (V i))]) (rest := []) Sf (c_Graph_remainder l G a (V i) hax hv.1 (by omega)) mv_Gr_38 ⟨rfl, rfl⟩ ⟨Nat.le_of_ble_eq_true rfl, Nat.le_of_ble_eq_true rfl⟩ r [] rfl rfl hl.1 rfl (Nat.le_of_ble_eq_true rfl) dGr_valueIn_41 ⟨Nat.le_of_ble_eq_true rfl, Nat.le_of_ble_eq_true rfl⟩ ?_
        exact hret _ _ _ dGr_valueIn_44 (by rw [ha, show k = n - 1 - i by omega]; rfl)
      · skip
        have hax : a < 2 ^ 31 := Nat.lt_of_le_of_lt (ha ▸ restF_le k) hx0
        have hv := hV (n - 1 - k) (by omega)
        refine lv_iload_n hx hb dGr_valueIn_16 rfl (lv_at hl 1 rfl) ?_
        refine lv_aload_n hx hb dGr_valueIn_17 rfl (lv_at hl 2 rfl) ?_
        refine gf_Gr_9 Sf r 0 rfl rfl dGr_valueIn_18 ?_
        refine lv_iload hx hb dGr_valueIn_21 (lv_at hl 0 rfl) ?_
        refine z_iald hx hb r 1 (k := (n - 1 - k)) rfl (by omega) (by omega) dGr_valueIn_23 ?_
        refine z_rS (As := [.int (nI a), .int (nI (V (n - 1 - k)))]) (rest := []) Sf (c_Graph_quotient l G a (V (n - 1 - k)) hax hv.1 (by omega)) mv_Gr_35 ⟨rfl, rfl⟩ ⟨Nat.le_of_ble_eq_true rfl, Nat.le_of_ble_eq_true rfl⟩ r [] rfl rfl hl.1 rfl (Nat.le_of_ble_eq_true rfl) dGr_valueIn_24 ⟨Nat.le_of_ble_eq_true rfl, Nat.le_of_ble_eq_true rfl⟩ ?_
        refine lv_istore_n (lv' := [(3, .int (nI (a / (V (n - 1 - k))))), (4, .int (nI (n - 1 - k))), (0, .ref g), (1, .int (nI x)), (2, .int (nI i))]) hx hb dGr_valueIn_27 rfl hl (by decide) rfl (fun ls hl => ?_)
        refine lv_iinc (v := (nI (n - 1 - (k + 1)))) (lv' := [(4, .int (nI (n - 1 - (k + 1)))), (3, .int (nI (a / (V (n - 1 - k))))), (0, .ref g), (1, .int (nI x)), (2, .int (nI i))]) hx hb dGr_valueIn_28 hl (k := 1) rfl (by rw [show n - 1 - k = (n - 1 - (k + 1)) + 1 by omega]; exact pk_m1 _) (by decide) rfl (fun ls hl => ?_)
        refine lv_goto (tgt := 10) hx hb dGr_valueIn_31 (by decide) ?_
        refine ih10 (k + 1) (a / (V (n - 1 - k))) ?_ ?_ ?_ ls (lv_sub hl [0, 1, 2, 3, 4] rfl)
        · omega
        · rw [ha]; rfl
        · omega
  refine L10 ((n - 0) + 1) 0 x ?_ ?_ ?_ ls (lv_sub hl [0, 1, 2, 3, 4] rfl)
  · omega
  · rfl
  · exact Nat.lt_succ_self _
end
section
def rm_Factor_power : Room := { frames := 0, cells := 0, slots := 0, locals := 0 }
set_option maxHeartbeats 4000000 in
set_option maxRecDepth 100000 in
theorem c_Factor_power (l : Launch) (G : zG) (f fn fs fe fp : Nat) (nx : Option Nat) (t : Nat) (v : Nat) (ht : t ≤ 3) : Met l yFa_power (.code yFa_power cFa_power 4 (some .int) :: zT) rm_Factor_power (zPr G [.ref f, .int (nI v)] [(f, zO 0 [.ref fn, .ref fs, .ref fe, .ref fp, va_rf nx, .int (nI t)])]) (k2_QcV (.int (nI (v ^ t)))) 0 0 (fun _ => False) := by
  refine z_metRi (by decide) (Nat.le_of_ble_eq_true rfl) (fun p e s m args below meth c ls Q Sf r hl hret => ?_)
  have Sf : CallFix p m c cFa_power 4 s args zT RFa := Sf
  have hx := Sf.1
  have hb := Sf.2.1
  have hown := Sf.2.2.2.1
  have hts := Sf.2.2.2.2
  have hl : lv_has ls 4 [(0, .ref f), (1, .int (nI v))] := hl
  refine lv_iconst (v := (nI 1)) hx hb dFa_power_0 (by decide) ?_
  refine lv_istore_n (lv' := [(2, .int (nI 1)), (0, .ref f), (1, .int (nI v))]) hx hb dFa_power_1 rfl hl (by decide) rfl (fun ls hl => ?_)
  refine lv_iconst (v := (nI 0)) hx hb dFa_power_2 (by decide) ?_
  refine lv_istore_n (lv' := [(3, .int (nI 0)), (2, .int (nI 1)), (0, .ref f), (1, .int (nI v))]) hx hb dFa_power_3 rfl hl (by decide) rfl (fun ls hl => ?_)
  have L4 : ∀ (fu4 : Nat) (i a : Nat), (i ≤ t) → (a = v ^ i) → (t - i) < fu4 → ∀ (ls : Array Slot), lv_has ls 4 [(3, .int (nI i)), (2, .int (nI a)), (0, .ref f), (1, .int (nI v))] → W p l e rm_Factor_power s m args below meth c s.heap [] 0 0 Q (F0 m 4 ls []) := by
    intro fu4
    induction fu4 with
    | zero =>
      intro i a hi ha hm4
      exact absurd hm4 (Nat.not_lt_zero _)
    | succ fu4 ih4 =>
      intro i a hi ha hm4 ls hl
      refine lv_iload_n hx hb dFa_power_4 rfl (lv_at hl 0 rfl) ?_
      refine lv_aload_n hx hb dFa_power_5 rfl (lv_at hl 2 rfl) ?_
      refine gf_Fa_7 Sf r 0 rfl rfl dFa_power_6 ?_
      refine z_icmpge (tgt := 22) hx hb (by omega) (by omega) dFa_power_9 (by decide) (fun c9 => ?_) (fun c9 => ?_)
      · skip
        refine lv_iload_n hx hb dFa_power_22 rfl (lv_at hl 1 rfl) ?_
        exact hret _ _ _ dFa_power_23 (by rw [ha, show i = t by omega])
      · skip
        refine lv_iload_n hx hb dFa_power_12 rfl (lv_at hl 1 rfl) ?_
        refine lv_iload_n hx hb dFa_power_13 rfl (lv_at hl 3 rfl) ?_
        refine z_mulN hx hb dFa_power_14 ?_
        refine lv_istore_n (lv' := [(2, .int (nI (a * v))), (3, .int (nI i)), (0, .ref f), (1, .int (nI v))]) hx hb dFa_power_15 rfl hl (by decide) rfl (fun ls hl => ?_)
        refine z_iinc (d := 1) (lv' := [(3, .int (nI (i + 1))), (2, .int (nI (a * v))), (0, .ref f), (1, .int (nI v))]) hx hb dFa_power_16 hl (k := 1) rfl (by decide) (by decide) rfl (fun ls hl => ?_)
        refine lv_goto (tgt := 4) hx hb dFa_power_19 (by decide) ?_
        refine ih4 (i + 1) (a * v) ?_ ?_ ?_ ls (lv_sub hl [0, 1, 2, 3] rfl)
        · omega
        · rw [ha, Nat.pow_succ]
        · omega
  refine L4 ((t - 0) + 1) 0 1 ?_ ?_ ?_ ls (lv_sub hl [0, 1, 2, 3] rfl)
  · omega
  · rfl
  · exact Nat.lt_succ_self _

def rm_Factor_entryAt : Room := { frames := 0, cells := 0, slots := 0, locals := 0 }
set_option maxHeartbeats 4000000 in
set_option maxRecDepth 100000 in
theorem c_Factor_entryAt (l : Launch) (G : zG) (f fn fs fe fp : Nat) (nx : Option Nat) (t : Nat) (k : Nat) (nm sp C : Nat → Nat) (ch : Nat) (hk : k ≤ 4) (hnm0 : ∀ i, i < k → nm i < 12) : Met l yFa_entryAt (.code yFa_entryAt cFa_entryAt 4 (some .int) :: zT) rm_Factor_entryAt (zPr G [.ref f, .ref ch] [(f, zO 0 [.ref fn, .ref fs, .ref fe, .ref fp, va_rf nx, .int (nI t)]), (fn, zI G k (fun j => nI (nm j))), (fs, zI G k (fun j => nI (sp j))), (ch, zI G 12 (fun j => nI (C j)))]) (k2_QcV (.int (nI (entF nm sp C k)))) 0 0 (fun _ => False) := by
  refine z_metRi (by decide) (Nat.le_of_ble_eq_true rfl) (fun p e s m args below meth c ls Q Sf r hl hret => ?_)
  have Sf : CallFix p m c cFa_entryAt 4 s args zT RFa := Sf
  have hx := Sf.1
  have hb := Sf.2.1
  have hown := Sf.2.2.2.1
  have hts := Sf.2.2.2.2
  have hl : lv_has ls 4 [(0, .ref f), (1, .ref ch)] := hl
  refine lv_iconst (v := (nI 0)) hx hb dFa_entryAt_0 (by decide) ?_
  refine lv_istore_n (lv' := [(2, .int (nI 0)), (0, .ref f), (1, .ref ch)]) hx hb dFa_entryAt_1 rfl hl (by decide) rfl (fun ls hl => ?_)
  refine lv_iconst (v := (nI 0)) hx hb dFa_entryAt_2 (by decide) ?_
  refine lv_istore_n (lv' := [(3, .int (nI 0)), (2, .int (nI 0)), (0, .ref f), (1, .ref ch)]) hx hb dFa_entryAt_3 rfl hl (by decide) rfl (fun ls hl => ?_)
  have L4 : ∀ (fu4 : Nat) (i a : Nat), (i ≤ k) → (a = entF nm sp C i) → (k - i) < fu4 → ∀ (ls : Array Slot), lv_has ls 4 [(3, .int (nI i)), (2, .int (nI a)), (0, .ref f), (1, .ref ch)] → W p l e rm_Factor_entryAt s m args below meth c s.heap [] 0 0 Q (F0 m 4 ls []) := by
    intro fu4
    induction fu4 with
    | zero =>
      intro i a hi ha hm4
      exact absurd hm4 (Nat.not_lt_zero _)
    | succ fu4 ih4 =>
      intro i a hi ha hm4 ls hl
      refine lv_iload_n hx hb dFa_entryAt_4 rfl (lv_at hl 0 rfl) ?_
      refine lv_aload_n hx hb dFa_entryAt_5 rfl (lv_at hl 2 rfl) ?_
      refine gf_Fa_19 Sf r 0 rfl rfl dFa_entryAt_6 ?_
      refine z_ilen hx hb r 1 rfl dFa_entryAt_9 ?_
      refine z_icmpge (tgt := 37) hx hb (by omega) (by omega) dFa_entryAt_10 (by decide) (fun c10 => ?_) (fun c10 => ?_)
      · skip
        refine lv_iload_n hx hb dFa_entryAt_37 rfl (lv_at hl 1 rfl) ?_
        exact hret _ _ _ dFa_entryAt_38 (by rw [ha, show i = k by omega])
      · skip
        refine lv_iload_n hx hb dFa_entryAt_13 rfl (lv_at hl 1 rfl) ?_
        refine lv_aload_n hx hb dFa_entryAt_14 rfl (lv_at hl 3 rfl) ?_
        refine lv_aload_n hx hb dFa_entryAt_15 rfl (lv_at hl 2 rfl) ?_
        refine gf_Fa_19 Sf r 0 rfl rfl dFa_entryAt_16 ?_
        refine lv_iload_n hx hb dFa_entryAt_19 rfl (lv_at hl 0 rfl) ?_
        refine z_iald hx hb r 1 (k := i) rfl (by omega) (by omega) dFa_entryAt_20 ?_
        refine z_iald hx hb r 3 (k := (nm i)) rfl (hnm0 i (by omega)) (by omega) dFa_entryAt_21 ?_
        refine lv_aload_n hx hb dFa_entryAt_22 rfl (lv_at hl 2 rfl) ?_
        refine gf_Fa_23 Sf r 0 rfl rfl dFa_entryAt_23 ?_
        refine lv_iload_n hx hb dFa_entryAt_26 rfl (lv_at hl 0 rfl) ?_
        refine z_iald hx hb r 2 (k := i) rfl (by omega) (by omega) dFa_entryAt_27 ?_
        refine z_mulN hx hb dFa_entryAt_28 ?_
        refine z_addN hx hb dFa_entryAt_29 ?_
        refine lv_istore_n (lv' := [(2, .int (nI (a + ((C (nm i)) * (sp i))))), (3, .int (nI i)), (0, .ref f), (1, .ref ch)]) hx hb dFa_entryAt_30 rfl hl (by decide) rfl (fun ls hl => ?_)
        refine z_iinc (d := 1) (lv' := [(3, .int (nI (i + 1))), (2, .int (nI (a + ((C (nm i)) * (sp i))))), (0, .ref f), (1, .ref ch)]) hx hb dFa_entryAt_31 hl (k := 1) rfl (by decide) (by decide) rfl (fun ls hl => ?_)
        refine lv_goto (tgt := 4) hx hb dFa_entryAt_34 (by decide) ?_
        refine ih4 (i + 1) (a + ((C (nm i)) * (sp i))) ?_ ?_ ?_ ls (lv_sub hl [0, 1, 2, 3] rfl)
        · omega
        · rw [ha]; rfl
        · omega
  refine L4 ((k - 0) + 1) 0 0 ?_ ?_ ?_ ls (lv_sub hl [0, 1, 2, 3] rfl)
  · omega
  · rfl
  · exact Nat.lt_succ_self _

def rm_Factor_powerAt : Room := { frames := 1, cells := 0, slots := 0, locals := 40 }
set_option maxHeartbeats 4000000 in
set_option maxRecDepth 100000 in
theorem c_Factor_powerAt (l : Launch) (G : zG) (f fn fs fe fp : Nat) (nx : Option Nat) (t : Nat) (k : Nat) (nm sp C P : Nat → Nat) (ch cs : Nat) (hk : k ≤ 4) (hnm0 : ∀ i, i < k → nm i < 12) (hcs : cs ≤ 256) (he : entF nm sp C k < cs) : Met l yFa_powerAt (.code yFa_powerAt cFa_powerAt 3 (some .int) :: zT) rm_Factor_powerAt (zPr G [.ref f, .ref ch] [(f, zO 0 [.ref fn, .ref fs, .ref fe, .ref fp, va_rf nx, .int (nI t)]), (fn, zI G k (fun j => nI (nm j))), (fs, zI G k (fun j => nI (sp j))), (ch, zI G 12 (fun j => nI (C j))), (fp, zI G cs (fun j => nI (P j)))]) (k2_QcV (.int (nI (P (entF nm sp C k))))) 0 0 (fun _ => False) := by
  refine z_metRi (by decide) (Nat.le_of_ble_eq_true rfl) (fun p e s m args below meth c ls Q Sf r hl hret => ?_)
  have Sf : CallFix p m c cFa_powerAt 3 s args zT RFa := Sf
  have hx := Sf.1
  have hb := Sf.2.1
  have hown := Sf.2.2.2.1
  have hts := Sf.2.2.2.2
  have hl : lv_has ls 3 [(0, .ref f), (1, .ref ch)] := hl
  refine lv_aload_n hx hb dFa_powerAt_0 rfl (lv_at hl 0 rfl) ?_
  refine lv_aload_n hx hb dFa_powerAt_1 rfl (lv_at hl 1 rfl) ?_
  refine z_rV (As := [.ref ch]) (rest := []) Sf (c_Factor_entryAt l G f fn fs fe fp nx t k nm sp C ch (by first | assumption | omega) (by first | assumption | omega)) mv_Fa_52 ⟨rfl, rfl⟩ ⟨Nat.le_of_ble_eq_true rfl, Nat.le_of_ble_eq_true rfl⟩ r [0, 1, 2, 3] rfl 0 rfl rfl rfl rfl hl.1 rfl (Nat.le_of_ble_eq_true rfl) dFa_powerAt_2 ⟨Nat.le_of_ble_eq_true rfl, Nat.le_of_ble_eq_true rfl⟩ ?_
  refine lv_istore_n (lv' := [(2, .int (nI (entF nm sp C k))), (0, .ref f), (1, .ref ch)]) hx hb dFa_powerAt_5 rfl hl (by decide) rfl (fun ls hl => ?_)
  refine lv_iload_n hx hb dFa_powerAt_6 rfl (lv_at hl 0 rfl) ?_
  refine lv_aload_n hx hb dFa_powerAt_7 rfl (lv_at hl 1 rfl) ?_
  refine gf_Fa_36 Sf r 0 rfl rfl dFa_powerAt_8 ?_
  refine z_ilen hx hb r 4 rfl dFa_powerAt_11 ?_
  refine z_icmpge (tgt := 24) hx hb (by omega) (by omega) dFa_powerAt_12 (by decide) (fun c12 => ?_) (fun c12 => ?_)
  · skip
    exact absurd c12 (by omega)
  · skip
    refine lv_aload_n hx hb dFa_powerAt_15 rfl (lv_at hl 1 rfl) ?_
    refine gf_Fa_36 Sf r 0 rfl rfl dFa_powerAt_16 ?_
    refine lv_iload_n hx hb dFa_powerAt_19 rfl (lv_at hl 0 rfl) ?_
    refine z_iald hx hb r 4 (k := (entF nm sp C k)) rfl (by omega) (by omega) dFa_powerAt_20 ?_
    refine lv_goto (tgt := 25) hx hb dFa_powerAt_21 (by decide) ?_
    exact hret _ _ _ dFa_powerAt_25 (rfl)
end
section
-- longs from -1 on: mL k is k - 1
def mL (k : Nat) : Int64 := lN k - 1
theorem mL_s (k : Nat) : mL (k + 1) = lN k := by
  unfold mL
  rw [← lN_1]
  exact Int64.add_sub_cancel (lN k) 1
theorem mL_0 : mL 0 = -1 := by decide
theorem mL_toInt {k : Nat} (h : k < 2 ^ 62) : (mL k).toInt = (k : Int) - 1 := by
  cases k with
  | zero => decide
  | succ k =>
    rw [mL_s, pk_lT (by omega)]
    omega
theorem mL_le {a b : Nat} (ha : a < 2 ^ 62) (hb : b < 2 ^ 62) : mL a ≤ mL b ↔ a ≤ b := by
  rw [Int64.le_iff_toInt_le, mL_toInt ha, mL_toInt hb]
  omega
theorem mL_lt {a b : Nat} (ha : a < 2 ^ 62) (hb : b < 2 ^ 62) : mL a < mL b ↔ a < b := by
  rw [Int64.lt_iff_toInt_lt, mL_toInt ha, mL_toInt hb]
  omega
theorem mL_eq {a b : Nat} (ha : a < 2 ^ 62) (hb : b < 2 ^ 62) : mL a = mL b ↔ a = b := by
  constructor
  · intro h
    have h2 : (mL a).toInt = (mL b).toInt := by rw [h]
    rw [mL_toInt ha, mL_toInt hb] at h2
    omega
  · intro h
    rw [h]
theorem updL_mL (V : Nat → Nat) (k x : Nat) : vp_updL (fun j => mL (V j)) k (mL x) = fun j => mL (va_up V k x j) := by
  funext j
  unfold vp_updL va_up
  by_cases h : j = k <;> simp [h]
theorem mL_add (a b : Nat) : lN a + mL b = mL (a + b) := by
  unfold mL
  rw [← lN_add]
  rw [Int64.sub_eq_add_neg, Int64.sub_eq_add_neg, Int64.add_assoc]
section ZLM
variable {p : Program} {l : Launch} {e : Env} {R : Room} {s : State} {m : MethodId} {args : Array Value} {below : List Frame} {meth : Method} {c : Code} {H : Heap} {locs : List Loc} {cells slots : Nat} {Q : State → Prop}
variable {cc : ByteArray} {pc nL : Nat} {ls : Array Slot} {rest : List Value} {G : zG} {A : Nat → Prop} {a : Nat} {ws ws' : va_W}
theorem z_lastM (hx : p.tables.exec = Jvm.exec) (hb : c.code = cc) (w : zw G A s ws H locs) (q0 : Nat) {n k x : Nat} {V : Nat → Nat} (ha : ws[q0]? = some (a, zL G n (fun j => mL (V j)))) (hk : k < n) (hn : n < 2 ^ 31) (hw : ws.set q0 (a, zL G n (fun j => mL (va_up V k x j))) = ws') (hdg : decode cc pc = .ok (.lastore, 1))
    (kk : ∀ (H1 : Heap) (locs1 : List Loc), zw G A s ws' H1 locs1 → W p l e R s m args below meth c H1 locs1 cells slots Q (F0 m (pc + 1) ls rest)) : W p l e R s m args below meth c H locs cells slots Q (F0 m pc ls (.long (mL x) :: .int (nI k) :: .ref a :: rest)) :=
  z_last hx hb w q0 ha hk hn (by rw [updL_mL]; exact hw) hdg kk
theorem z_laddNM (hx : p.tables.exec = Jvm.exec) (hb : c.code = cc) {x y : Nat} (hdg : decode cc pc = .ok (.ladd, 1)) (k : W p l e R s m args below meth c H locs cells slots Q (F0 m (pc + 1) ls (.long (mL (x + y)) :: rest))) : W p l e R s m args below meth c H locs cells slots Q (F0 m pc ls (.long (mL y) :: .long (lN x) :: rest)) :=
  lv_ladd hx hb hdg (by rw [mL_add]; exact k)
theorem z_lcgeMM (hx : p.tables.exec = Jvm.exec) (hb : c.code = cc) {x y : Nat} {off : Int} {tgt : Nat} (h1 : x < 2 ^ 62) (h2 : y < 2 ^ 62) (hdg : decode cc pc = .ok (.ifCond .ge off, 3)) (ht : (pc : Int) + off = (tgt : Int))
    (kt : y ≤ x → W p l e R s m args below meth c H locs cells slots Q (F0 m tgt ls rest)) (kf : x < y → W p l e R s m args below meth c H locs cells slots Q (F0 m (pc + 3) ls rest)) : W p l e R s m args below meth c H locs cells slots Q (F0 m pc ls (.int (lg_cmp (mL x) (mL y)) :: rest)) :=
  lv_if_ge hx hb hdg ht (fun q => kt (((lg_cmp_ge (mL x) (mL y)).trans (mL_le h2 h1)).mp q)) (fun q => kf (Nat.lt_of_not_le (fun z => q (((lg_cmp_ge (mL x) (mL y)).trans (mL_le h2 h1)).mpr z))))
theorem z_lcgeMN (hx : p.tables.exec = Jvm.exec) (hb : c.code = cc) {x y : Nat} {off : Int} {tgt : Nat} (h1 : x < 2 ^ 62) (h2 : y + 1 < 2 ^ 62) (hdg : decode cc pc = .ok (.ifCond .ge off, 3)) (ht : (pc : Int) + off = (tgt : Int))
    (kt : y + 1 ≤ x → W p l e R s m args below meth c H locs cells slots Q (F0 m tgt ls rest)) (kf : x < y + 1 → W p l e R s m args below meth c H locs cells slots Q (F0 m (pc + 3) ls rest)) : W p l e R s m args below meth c H locs cells slots Q (F0 m pc ls (.int (lg_cmp (mL x) (lN y)) :: rest)) := by
  rw [← mL_s y]
  exact z_lcgeMM hx hb h1 h2 hdg ht kt kf
theorem z_lcltMM (hx : p.tables.exec = Jvm.exec) (hb : c.code = cc) {x y : Nat} {off : Int} {tgt : Nat} (h1 : x < 2 ^ 62) (h2 : y < 2 ^ 62) (hdg : decode cc pc = .ok (.ifCond .lt off, 3)) (ht : (pc : Int) + off = (tgt : Int))
    (kt : x < y → W p l e R s m args below meth c H locs cells slots Q (F0 m tgt ls rest)) (kf : y ≤ x → W p l e R s m args below meth c H locs cells slots Q (F0 m (pc + 3) ls rest)) : W p l e R s m args below meth c H locs cells slots Q (F0 m pc ls (.int (lg_cmp (mL x) (mL y)) :: rest)) :=
  lv_if_lt hx hb hdg ht (fun q => kt (((lg_cmp_lt (mL x) (mL y)).trans (mL_lt h1 h2)).mp q)) (fun q => kf (Nat.le_of_not_lt (fun z => q (((lg_cmp_lt (mL x) (mL y)).trans (mL_lt h1 h2)).mpr z))))
theorem z_lcltMN (hx : p.tables.exec = Jvm.exec) (hb : c.code = cc) {x y : Nat} {off : Int} {tgt : Nat} (h1 : x < 2 ^ 62) (h2 : y + 1 < 2 ^ 62) (hdg : decode cc pc = .ok (.ifCond .lt off, 3)) (ht : (pc : Int) + off = (tgt : Int))
    (kt : x < y + 1 → W p l e R s m args below meth c H locs cells slots Q (F0 m tgt ls rest)) (kf : y + 1 ≤ x → W p l e R s m args below meth c H locs cells slots Q (F0 m (pc + 3) ls rest)) : W p l e R s m args below meth c H locs cells slots Q (F0 m pc ls (.int (lg_cmp (mL x) (lN y)) :: rest)) := by
  rw [← mL_s y]
  exact z_lcltMM hx hb h1 h2 hdg ht kt kf
theorem z_lcleMM (hx : p.tables.exec = Jvm.exec) (hb : c.code = cc) {x y : Nat} {off : Int} {tgt : Nat} (h1 : x < 2 ^ 62) (h2 : y < 2 ^ 62) (hdg : decode cc pc = .ok (.ifCond .le off, 3)) (ht : (pc : Int) + off = (tgt : Int))
    (kt : x ≤ y → W p l e R s m args below meth c H locs cells slots Q (F0 m tgt ls rest)) (kf : y < x → W p l e R s m args below meth c H locs cells slots Q (F0 m (pc + 3) ls rest)) : W p l e R s m args below meth c H locs cells slots Q (F0 m pc ls (.int (lg_cmp (mL x) (mL y)) :: rest)) :=
  lv_if_le hx hb hdg ht (fun q => kt (((lg_cmp_le (mL x) (mL y)).trans (mL_le h1 h2)).mp q)) (fun q => kf (Nat.lt_of_not_le (fun z => q (((lg_cmp_le (mL x) (mL y)).trans (mL_le h1 h2)).mpr z))))
theorem z_lcleMN (hx : p.tables.exec = Jvm.exec) (hb : c.code = cc) {x y : Nat} {off : Int} {tgt : Nat} (h1 : x < 2 ^ 62) (h2 : y + 1 < 2 ^ 62) (hdg : decode cc pc = .ok (.ifCond .le off, 3)) (ht : (pc : Int) + off = (tgt : Int))
    (kt : x ≤ y + 1 → W p l e R s m args below meth c H locs cells slots Q (F0 m tgt ls rest)) (kf : y + 1 < x → W p l e R s m args below meth c H locs cells slots Q (F0 m (pc + 3) ls rest)) : W p l e R s m args below meth c H locs cells slots Q (F0 m pc ls (.int (lg_cmp (mL x) (lN y)) :: rest)) := by
  rw [← mL_s y]
  exact z_lcleMM hx hb h1 h2 hdg ht kt kf
theorem z_lcgtMM (hx : p.tables.exec = Jvm.exec) (hb : c.code = cc) {x y : Nat} {off : Int} {tgt : Nat} (h1 : x < 2 ^ 62) (h2 : y < 2 ^ 62) (hdg : decode cc pc = .ok (.ifCond .gt off, 3)) (ht : (pc : Int) + off = (tgt : Int))
    (kt : y < x → W p l e R s m args below meth c H locs cells slots Q (F0 m tgt ls rest)) (kf : x ≤ y → W p l e R s m args below meth c H locs cells slots Q (F0 m (pc + 3) ls rest)) : W p l e R s m args below meth c H locs cells slots Q (F0 m pc ls (.int (lg_cmp (mL x) (mL y)) :: rest)) :=
  lv_if_gt hx hb hdg ht (fun q => kt (((lg_cmp_gt (mL x) (mL y)).trans (mL_lt h2 h1)).mp q)) (fun q => kf (Nat.le_of_not_lt (fun z => q (((lg_cmp_gt (mL x) (mL y)).trans (mL_lt h2 h1)).mpr z))))
theorem z_lcgtMN (hx : p.tables.exec = Jvm.exec) (hb : c.code = cc) {x y : Nat} {off : Int} {tgt : Nat} (h1 : x < 2 ^ 62) (h2 : y + 1 < 2 ^ 62) (hdg : decode cc pc = .ok (.ifCond .gt off, 3)) (ht : (pc : Int) + off = (tgt : Int))
    (kt : y + 1 < x → W p l e R s m args below meth c H locs cells slots Q (F0 m tgt ls rest)) (kf : x ≤ y + 1 → W p l e R s m args below meth c H locs cells slots Q (F0 m (pc + 3) ls rest)) : W p l e R s m args below meth c H locs cells slots Q (F0 m pc ls (.int (lg_cmp (mL x) (lN y)) :: rest)) := by
  rw [← mL_s y]
  exact z_lcgtMM hx hb h1 h2 hdg ht kt kf
theorem z_lceqMM (hx : p.tables.exec = Jvm.exec) (hb : c.code = cc) {x y : Nat} {off : Int} {tgt : Nat} (h1 : x < 2 ^ 62) (h2 : y < 2 ^ 62) (hdg : decode cc pc = .ok (.ifCond .eq off, 3)) (ht : (pc : Int) + off = (tgt : Int))
    (kt : x = y → W p l e R s m args below meth c H locs cells slots Q (F0 m tgt ls rest)) (kf : x ≠ y → W p l e R s m args below meth c H locs cells slots Q (F0 m (pc + 3) ls rest)) : W p l e R s m args below meth c H locs cells slots Q (F0 m pc ls (.int (lg_cmp (mL x) (mL y)) :: rest)) :=
  lv_if_eq hx hb hdg ht (fun q => kt (((lg_cmp_eq (mL x) (mL y)).trans (mL_eq h1 h2)).mp q)) (fun q => kf (fun z => q (((lg_cmp_eq (mL x) (mL y)).trans (mL_eq h1 h2)).mpr z)))
theorem z_lceqMN (hx : p.tables.exec = Jvm.exec) (hb : c.code = cc) {x y : Nat} {off : Int} {tgt : Nat} (h1 : x < 2 ^ 62) (h2 : y + 1 < 2 ^ 62) (hdg : decode cc pc = .ok (.ifCond .eq off, 3)) (ht : (pc : Int) + off = (tgt : Int))
    (kt : x = y + 1 → W p l e R s m args below meth c H locs cells slots Q (F0 m tgt ls rest)) (kf : x ≠ y + 1 → W p l e R s m args below meth c H locs cells slots Q (F0 m (pc + 3) ls rest)) : W p l e R s m args below meth c H locs cells slots Q (F0 m pc ls (.int (lg_cmp (mL x) (lN y)) :: rest)) := by
  rw [← mL_s y]
  exact z_lceqMM hx hb h1 h2 hdg ht kt kf
theorem z_lcneMM (hx : p.tables.exec = Jvm.exec) (hb : c.code = cc) {x y : Nat} {off : Int} {tgt : Nat} (h1 : x < 2 ^ 62) (h2 : y < 2 ^ 62) (hdg : decode cc pc = .ok (.ifCond .ne off, 3)) (ht : (pc : Int) + off = (tgt : Int))
    (kt : x ≠ y → W p l e R s m args below meth c H locs cells slots Q (F0 m tgt ls rest)) (kf : x = y → W p l e R s m args below meth c H locs cells slots Q (F0 m (pc + 3) ls rest)) : W p l e R s m args below meth c H locs cells slots Q (F0 m pc ls (.int (lg_cmp (mL x) (mL y)) :: rest)) :=
  lv_if_ne hx hb hdg ht (fun q => kt (fun z => q (((lg_cmp_eq (mL x) (mL y)).trans (mL_eq h1 h2)).mpr z))) (fun q => kf (((lg_cmp_eq (mL x) (mL y)).trans (mL_eq h1 h2)).mp q))
theorem z_lcneMN (hx : p.tables.exec = Jvm.exec) (hb : c.code = cc) {x y : Nat} {off : Int} {tgt : Nat} (h1 : x < 2 ^ 62) (h2 : y + 1 < 2 ^ 62) (hdg : decode cc pc = .ok (.ifCond .ne off, 3)) (ht : (pc : Int) + off = (tgt : Int))
    (kt : x ≠ y + 1 → W p l e R s m args below meth c H locs cells slots Q (F0 m tgt ls rest)) (kf : x = y + 1 → W p l e R s m args below meth c H locs cells slots Q (F0 m (pc + 3) ls rest)) : W p l e R s m args below meth c H locs cells slots Q (F0 m pc ls (.int (lg_cmp (mL x) (lN y)) :: rest)) := by
  rw [← mL_s y]
  exact z_lcneMM hx hb h1 h2 hdg ht kt kf
end ZLM
end
section
-- PURE: what the reference's methods compute
def inZ (v lo hi : Int64) : Prop := ¬ v < lo ∧ ¬ hi < v
theorem i64_of (x : Int32) : x.toInt64.toInt = x.toInt := Int32.toInt_toInt64 x
theorem in_kn {x : Int32} {n : Nat} (hn : n < 2 ^ 30) : inZ x.toInt64 (lN 0) (mI n).toInt64 ↔ knP x n := by
  unfold inZ knP
  rw [Int64.lt_iff_toInt_lt, Int64.lt_iff_toInt_lt, i64_of, i64_of, mI_toInt hn, Int32.lt_iff_toInt_lt, Int32.le_iff_toInt_le, nI_toInt (Nat.lt_trans hn (by decide))]
  have h0 : (lN 0).toInt = 0 := by decide
  have h1 : (0 : Int32).toInt = 0 := by decide
  rw [h0, h1]
  omega
def stP (x : Int32) (n : Nat) : Prop := ¬ x < 0 ∧ ¬ nI (2 ^ n) ≤ x
def popP (S : Nat) : Nat → Nat
  | 0 => 0
  | i + 1 => popP S i + bitN S i
theorem popP_12 (S : Nat) : popP S 12 = popc S := rfl
def sumF (C : Nat → Nat) : Nat → Nat
  | 0 => 0
  | i + 1 => sumF C i + C i
def orF (Se : Nat → Nat) (a : Nat) : Nat → Nat
  | 0 => 0
  | f + 1 => if (Se f).testBit a then orF Se a f ||| Se f else orF Se a f
theorem orF_t {Se : Nat → Nat} {a f : Nat} (h : (Se f).testBit a = true) : orF Se a (f + 1) = orF Se a f ||| Se f := by simp [orF, h]
theorem orF_f {Se : Nat → Nat} {a f : Nat} (h : (Se f).testBit a = false) : orF Se a (f + 1) = orF Se a f := by simp [orF, h]
theorem orF_lt {Se : Nat → Nat} (h : ∀ i, Se i < 4096) (a : Nat) : ∀ f, orF Se a f < 4096
  | 0 => by show 0 < 4096; decide
  | f + 1 => by
    cases hb : (Se f).testBit a
    · rw [orF_f hb]; exact orF_lt h a f
    · rw [orF_t hb]; exact or_lt (orF_lt h a f) (h f)
/-- the neighbours, out of the sets -/
def drF (Se : Nat → Nat) (nf a : Nat) : Nat := sdf (orF Se a nf) (2 ^ a)
theorem drF_lt {Se : Nat → Nat} (h : ∀ i, Se i < 4096) (nf a : Nat) : drF Se nf a < 4096 := Nat.lt_of_le_of_lt (sdf_le _ _) (orF_lt h a nf)
def filI (Li : Nat → Nat) (a b : Nat) : Nat → Nat
  | 0 => 0
  | c + 1 => if (Li a).testBit b ∧ (Li a).testBit c ∧ (Li b).testBit c = false then filI Li a b c + 1 else filI Li a b c
theorem filI_t {Li : Nat → Nat} {a b c : Nat} (h1 : (Li a).testBit b = true) (h2 : (Li a).testBit c = true) (h3 : (Li b).testBit c = false) : filI Li a b (c + 1) = filI Li a b c + 1 := by simp [filI, h1, h2, h3]
theorem filI_f1 {Li : Nat → Nat} {a b c : Nat} (h1 : (Li a).testBit b = false) : filI Li a b (c + 1) = filI Li a b c := by simp [filI, h1]
theorem filI_f2 {Li : Nat → Nat} {a b c : Nat} (h1 : (Li a).testBit c = false) : filI Li a b (c + 1) = filI Li a b c := by simp [filI, h1]
theorem filI_f3 {Li : Nat → Nat} {a b c : Nat} (h1 : (Li b).testBit c = true) : filI Li a b (c + 1) = filI Li a b c := by simp [filI, h1]
def filF (Li : Nat → Nat) (a : Nat) : Nat → Nat
  | 0 => 0
  | b + 1 => filF Li a b + filI Li a b b
theorem filI_le {Li : Nat → Nat} {a b : Nat} : ∀ c, filI Li a b c ≤ c
  | 0 => Nat.le_refl 0
  | c + 1 => by
    have := filI_le (Li := Li) (a := a) (b := b) c
    unfold filI
    split <;> omega
theorem filF_le {Li : Nat → Nat} {a : Nat} : ∀ b, filF Li a b ≤ b * b
  | 0 => Nat.le_refl 0
  | b + 1 => by
    have h1 := filF_le (Li := Li) (a := a) b
    have h2 := filI_le (Li := Li) (a := a) (b := b) b
    simp only [filF]
    have : (b + 1) * (b + 1) = b * b + b + b + 1 := by
      rw [Nat.add_mul, Nat.mul_add]
      omega
    omega
/-- the neighbours behind the taking out of a, at b -/
def toB (Li : Nat → Nat) (a b : Nat) : Nat := if (Li a).testBit b then sdf (sdf (Li b ||| Li a) (2 ^ b)) (2 ^ a) else Li b
def toF (Li : Nat → Nat) (n a : Nat) : Nat → Nat := va_up (rowF Li (toB Li a) n) a 0
theorem rowF_ge {f g : Nat → Nat} {i j : Nat} (h : i ≤ j) : rowF f g i j = f j := by
  unfold rowF
  rw [if_neg (by omega)]
theorem rowF_skip {f g : Nat → Nat} {i : Nat} (h : g i = f i) : rowF f g (i + 1) = rowF f g i := by
  funext j
  unfold rowF
  by_cases h1 : j < i
  · rw [if_pos h1, if_pos (by omega)]
  · rw [if_neg h1]
    by_cases h2 : j < i + 1
    · rw [if_pos h2, show j = i by omega, h]
    · rw [if_neg h2]
-- widths, cells
def wdF (Bg : Nat → Nat) : Nat → Nat
  | 0 => 0
  | i + 1 => max (wdF Bg i) (popc (Bg i))
def mcF (V Bg : Nat → Nat) (n : Nat) : Nat → Nat
  | 0 => 0
  | i + 1 => max (mcF V Bg n i) (cellsF V (Bg i) n)
theorem cellsF_le {V : Nat → Nat} (hV : ∀ j, V j ≤ 4) (S : Nat) : ∀ n, cellsF V S n ≤ 4 ^ n
  | 0 => Nat.le_refl 1
  | n + 1 => by
    have h := cellsF_le hV S n
    rw [Nat.pow_succ]
    cases hb : S.testBit n
    · rw [cellsF_f hb]
      exact Nat.le_trans h (Nat.le_mul_of_pos_right _ (by decide))
    · rw [cellsF_t hb]
      exact Nat.mul_le_mul h (hV n)
theorem cellsF_b {V : Nat → Nat} (hV : ∀ j, V j ≤ 4) (S : Nat) {n : Nat} (hn : n ≤ 12) : cellsF V S n ≤ 16777216 :=
  Nat.le_trans (cellsF_le hV S n) (Nat.pow_le_pow_right (by decide) hn)
theorem mcF_b {V Bg : Nat → Nat} (hV : ∀ j, V j ≤ 4) {n : Nat} (hn : n ≤ 12) : ∀ i, mcF V Bg n i ≤ 16777216
  | 0 => by show 0 ≤ _; omega
  | i + 1 => by
    have h1 := mcF_b (Bg := Bg) hV hn i
    have h2 := cellsF_b hV (Bg i) hn
    simp only [mcF]
    omega
theorem popS_congr {F G : Nat → Nat} : ∀ n, (∀ i, i < n → F i = G i) → popS F n = popS G n
  | 0, _ => rfl
  | n + 1, h => by
    simp only [popS]
    rw [popS_congr n (fun i hi => h i (by omega)), h n (by omega)]
theorem rowF_lt {f g : Nat → Nat} {i j : Nat} (h : j < i) : rowF f g i j = g j := by
  unfold rowF
  rw [if_pos h]
-- a state's values
def rowD (f g : Nat → Nat) (n t : Nat) : Nat → Nat := fun i => if t ≤ i ∧ i < n then g i else f i
theorem rowD_n (f g : Nat → Nat) (n : Nat) : rowD f g n n = f := by
  funext i
  unfold rowD
  rw [if_neg (by omega)]
theorem rowD_0 (f g : Nat → Nat) (n : Nat) : rowD f g n 0 = rowF f g n := by
  funext i
  unfold rowD rowF
  by_cases h : i < n
  · rw [if_pos h, if_pos (by omega)]
  · rw [if_neg h, if_neg (by omega)]
theorem rowD_s (f g : Nat → Nat) {n t : Nat} (h : t < n) : va_up (rowD f g n (t + 1)) t (g t) = rowD f g n t := by
  funext i
  unfold va_up rowD
  by_cases h1 : i = t
  · subst h1
    rw [if_pos rfl, if_pos (by omega)]
  · rw [if_neg h1]
    by_cases h2 : t + 1 ≤ i ∧ i < n
    · rw [if_pos h2, if_pos (by omega)]
    · rw [if_neg h2, if_neg (by omega)]
theorem restF_s {V : Nat → Nat} {n x t : Nat} (h : t < n) : restF V n x (n - (t + 1)) / V t = restF V n x (n - t) := by
  rw [show n - t = (n - (t + 1)) + 1 by omega]
  show _ = restF V n x (n - (t + 1)) / V (n - 1 - (n - (t + 1)))
  rw [show n - 1 - (n - (t + 1)) = t by omega]
theorem valF_eq {V : Nat → Nat} {n x t : Nat} : valF V n x t = restF V n x (n - (t + 1)) % V t := by
  unfold valF
  rw [show n - 1 - t = n - (t + 1) by omega]
def nmF (Sx V : Nat → Nat) (S : Nat) : Nat → Nat
  | 0 => 0
  | i + 1 => if S.testBit i then nmF Sx V S i + cellsF V S i * Sx i else nmF Sx V S i
theorem nmF_t {Sx V : Nat → Nat} {S i : Nat} (h : S.testBit i = true) : nmF Sx V S (i + 1) = nmF Sx V S i + cellsF V S i * Sx i := by simp [nmF, h]
theorem nmF_f {Sx V : Nat → Nat} {S i : Nat} (h : S.testBit i = false) : nmF Sx V S (i + 1) = nmF Sx V S i := by simp [nmF, h]
-- the greedy rules
def pkC (V Li : Nat → Nat) (n how i : Nat) : Nat := if how = 2 then popc (Li i) else if how = 3 then filF Li i n else cellsF V (Li i ||| 2 ^ i) n
def pkF (co : Nat → Nat) (out : Nat) : Nat → Nat × Nat
  | 0 => (0, 0)
  | i + 1 => if out.testBit i then pkF co out i else if (pkF co out i).1 = 0 ∨ co i < (pkF co out i).2 then (i + 1, co i) else pkF co out i
theorem pkF_o {co : Nat → Nat} {out i : Nat} (h : out.testBit i = true) : pkF co out (i + 1) = pkF co out i := by simp [pkF, h]
theorem pkF_t {co : Nat → Nat} {out i : Nat} (h : out.testBit i = false) (h2 : (pkF co out i).1 = 0 ∨ co i < (pkF co out i).2) : pkF co out (i + 1) = (i + 1, co i) := by
  simp only [pkF, h, if_pos h2]
  rfl
theorem pkF_f {co : Nat → Nat} {out i : Nat} (h : out.testBit i = false) (h2 : ¬ ((pkF co out i).1 = 0 ∨ co i < (pkF co out i).2)) : pkF co out (i + 1) = pkF co out i := by
  simp only [pkF, h, if_neg h2]
  rfl
-- the bag of a name when others are gone, by passes
def bgN (L : Nat → Nat) (a out sn : Nat) : Nat → Nat
  | 0 => sn
  | b + 1 => if sn.testBit b = true ∧ (b = a ∨ out.testBit b = true) then bgN L a out sn b ||| L b else bgN L a out sn b
theorem bgN_t {L : Nat → Nat} {a out sn b : Nat} (h : sn.testBit b = true ∧ (b = a ∨ out.testBit b = true)) : bgN L a out sn (b + 1) = bgN L a out sn b ||| L b := by simp only [bgN, if_pos h]
theorem bgN_f {L : Nat → Nat} {a out sn b : Nat} (h : ¬ (sn.testBit b = true ∧ (b = a ∨ out.testBit b = true))) : bgN L a out sn (b + 1) = bgN L a out sn b := by simp only [bgN, if_neg h]
theorem bgN_lt {L : Nat → Nat} (hL : ∀ i, L i < 4096) {a out sn : Nat} (h : sn < 4096) : ∀ b, bgN L a out sn b < 4096
  | 0 => h
  | b + 1 => by
    by_cases hc : sn.testBit b = true ∧ (b = a ∨ out.testBit b = true)
    · rw [bgN_t hc]; exact or_lt (bgN_lt hL h b) (hL b)
    · rw [bgN_f hc]; exact bgN_lt hL h b
theorem or_ge (a b : Nat) : a ≤ a ||| b := Nat.left_le_or
theorem bgN_ge {L : Nat → Nat} {a out sn : Nat} : ∀ b, sn ≤ bgN L a out sn b
  | 0 => Nat.le_refl sn
  | b + 1 => by
    by_cases hc : sn.testBit b = true ∧ (b = a ∨ out.testBit b = true)
    · rw [bgN_t hc]; exact Nat.le_trans (bgN_ge b) (or_ge _ _)
    · rw [bgN_f hc]; exact bgN_ge b
def bgX (L : Nat → Nat) (n a out : Nat) : Nat → Nat → Nat
  | 0, sn => sn
  | k + 1, sn => if bgN L a out sn n = sn then sn else bgX L n a out k (bgN L a out sn n)
theorem bgX_e {L : Nat → Nat} {n a out k sn : Nat} (h : bgN L a out sn n = sn) : bgX L n a out (k + 1) sn = sn := by simp only [bgX, if_pos h]
theorem bgX_n {L : Nat → Nat} {n a out k sn : Nat} (h : ¬ bgN L a out sn n = sn) : bgX L n a out (k + 1) sn = bgX L n a out k (bgN L a out sn n) := by simp only [bgX, if_neg h]
def mbF (L : Nat → Nat) (n a out : Nat) : Nat := 2 ^ a ||| sdf (bgX L n a out 4096 (2 ^ a)) out
theorem bgX_lt {L : Nat → Nat} (hL : ∀ i, L i < 4096) {n a out : Nat} : ∀ k sn, sn < 4096 → bgX L n a out k sn < 4096
  | 0, _, h => h
  | k + 1, sn, h => by
    by_cases hc : bgN L a out sn n = sn
    · rw [bgX_e hc]; exact h
    · rw [bgX_n hc]; exact bgX_lt hL k _ (bgN_lt hL h n)
theorem mbF_lt {L : Nat → Nat} (hL : ∀ i, L i < 4096) {n a out : Nat} (ha : a < 12) : mbF L n a out < 4096 :=
  or_lt (pw_lt ha) (Nat.lt_of_le_of_lt (sdf_le _ _) (bgX_lt hL _ _ (pw_lt ha)))
-- the best of all orders
def pcF (V L : Nat → Nat) (n wd : Nat) (Ch : Nat → Nat) (a out : Nat) : Nat := if wd < popc (mbF L n a out) ∨ Ch (out ||| 2 ^ a) = 0 then 0 else cellsF V (mbF L n a out) n + Ch (out ||| 2 ^ a)
theorem pcF_n {V L : Nat → Nat} {n wd : Nat} {Ch : Nat → Nat} {a out : Nat} (h : wd < popc (mbF L n a out) ∨ Ch (out ||| 2 ^ a) = 0) : pcF V L n wd Ch a out = 0 := by unfold pcF; rw [if_pos h]
theorem pcF_y {V L : Nat → Nat} {n wd : Nat} {Ch : Nat → Nat} {a out : Nat} (h : ¬ (wd < popc (mbF L n a out) ∨ Ch (out ||| 2 ^ a) = 0)) : pcF V L n wd Ch a out = cellsF V (mbF L n a out) n + Ch (out ||| 2 ^ a) := by unfold pcF; rw [if_neg h]
/-- the least width (plus one) of what is left, at one set, over the names below a -/
def lwS (L F : Nat → Nat) (n out : Nat) : Nat → Nat
  | 0 => 101
  | a + 1 => if out.testBit a then lwS L F n out a else min (lwS L F n out a) (max (popc (mbF L n a out)) (F (out ||| 2 ^ a)))
theorem lwS_o {L F : Nat → Nat} {n out a : Nat} (h : out.testBit a = true) : lwS L F n out (a + 1) = lwS L F n out a := by simp [lwS, h]
theorem lwS_i {L F : Nat → Nat} {n out a : Nat} (h : out.testBit a = false) : lwS L F n out (a + 1) = min (lwS L F n out a) (max (popc (mbF L n a out)) (F (out ||| 2 ^ a))) := by simp [lwS, h]
theorem lwS_le {L F : Nat → Nat} {n out : Nat} : ∀ a, lwS L F n out a ≤ 101
  | 0 => Nat.le_refl _
  | a + 1 => by
    have := lwS_le (L := L) (F := F) (n := n) (out := out) a
    cases h : out.testBit a
    · rw [lwS_i h]; omega
    · rw [lwS_o h]; exact this
/-- the row of least widths behind j steps from the top -/
def lwA (L Le : Nat → Nat) (n : Nat) : Nat → (Nat → Nat)
  | 0 => va_up Le (2 ^ n - 1) 0
  | j + 1 => va_up (lwA L Le n j) (2 ^ n - 1 - 1 - j) (lwS L (lwA L Le n j) n (2 ^ n - 1 - 1 - j) n)
theorem lwA_le {L Le : Nat → Nat} {n : Nat} (h : ∀ i, Le i ≤ 101) : ∀ j i, lwA L Le n j i ≤ 101
  | 0, i => by
    simp only [lwA]
    unfold va_up
    split
    · omega
    · exact h i
  | j + 1, i => by
    simp only [lwA]
    unfold va_up
    split
    · exact lwS_le n
    · exact lwA_le h j i
def chS (V L F : Nat → Nat) (n wd out : Nat) : Nat → Nat
  | 0 => 0
  | a + 1 => if out.testBit a then chS V L F n wd out a else if pcF V L n wd F a out ≠ 0 ∧ (chS V L F n wd out a = 0 ∨ pcF V L n wd F a out < chS V L F n wd out a) then pcF V L n wd F a out else chS V L F n wd out a
theorem chS_o {V L F : Nat → Nat} {n wd out a : Nat} (h : out.testBit a = true) : chS V L F n wd out (a + 1) = chS V L F n wd out a := by simp [chS, h]
theorem chS_y {V L F : Nat → Nat} {n wd out a : Nat} (h : out.testBit a = false) (h2 : pcF V L n wd F a out ≠ 0 ∧ (chS V L F n wd out a = 0 ∨ pcF V L n wd F a out < chS V L F n wd out a)) : chS V L F n wd out (a + 1) = pcF V L n wd F a out := by
  simp only [chS, h, if_pos h2]
  rfl
theorem chS_n {V L F : Nat → Nat} {n wd out a : Nat} (h : out.testBit a = false) (h2 : ¬ (pcF V L n wd F a out ≠ 0 ∧ (chS V L F n wd out a = 0 ∨ pcF V L n wd F a out < chS V L F n wd out a))) : chS V L F n wd out (a + 1) = chS V L F n wd out a := by
  simp only [chS, h, if_neg h2]
  rfl
def chA (V L Ch : Nat → Nat) (n wd : Nat) : Nat → (Nat → Nat)
  | 0 => va_up Ch (2 ^ n - 1) 1
  | j + 1 => va_up (chA V L Ch n wd j) (2 ^ n - 1 - 1 - j) (chS V L (chA V L Ch n wd j) n wd (2 ^ n - 1 - 1 - j) n)
theorem or_ne {o a : Nat} (h : o.testBit a = false) : o ||| 2 ^ a ≠ o := by
  intro q
  have h2 : (o ||| 2 ^ a).testBit a = true := by
    rw [Nat.testBit_or, Nat.testBit_two_pow]
    simp
  rw [q, h] at h2
  exact absurd h2 (by decide)
theorem or_lt2 {a b n : Nat} (ha : a < 2 ^ n) (hb : b < 2 ^ n) : a ||| b < 2 ^ n := Nat.or_lt_two_pow ha hb
theorem pw_lt2 {i n : Nat} (h : i < n) : 2 ^ i < 2 ^ n := Nat.pow_lt_pow_right (by decide) h
theorem pcF_le {V L F : Nat → Nat} {n wd a out B : Nat} (hV : ∀ j, V j ≤ 4) (hn : n ≤ 12) (h : F (out ||| 2 ^ a) ≤ B) : pcF V L n wd F a out ≤ 16777216 + B := by
  unfold pcF
  split
  · omega
  · have := cellsF_b hV (mbF L n a out) hn
    omega
-- weights
def evP (Bd St : Nat → Nat) (i : Nat) : Prop := ∀ k, k < i → Bd k = 0 ∨ Bd k = St k + 1
theorem evP_0 (Bd St : Nat → Nat) : evP Bd St 0 := fun _ h => absurd h (Nat.not_lt_zero _)
theorem evP_s {Bd St : Nat → Nat} {i : Nat} (h : evP Bd St i) (h2 : Bd i = 0 ∨ Bd i = St i + 1) : evP Bd St (i + 1) := fun k hk => by
  rcases Nat.lt_or_ge k i with q | q
  · exact h k q
  · rw [show k = i by omega]; exact h2
/-- the product of the first f factors' entries, each as often as it has copies -/
def prF (V St Se Co En : Nat → Nat) (n : Nat) : Nat → Nat
  | 0 => 1
  | f + 1 => prF V St Se Co En n f * En (256 * f + nmF St V (Se f) n) ^ Co f
theorem prF_0 {V St Se Co En : Nat → Nat} {n f : Nat} (h : prF V St Se Co En n f = 0) : ∀ j, prF V St Se Co En n (f + j) = 0
  | 0 => h
  | j + 1 => by
    show prF V St Se Co En n (f + j) * _ = 0
    rw [prF_0 h j, Nat.zero_mul]
theorem prF_le {V St Se Co En : Nat → Nat} {n : Nat} (hE : ∀ i, En i ≤ 7) : ∀ f, prF V St Se Co En n f ≤ 7 ^ sumF Co f
  | 0 => Nat.le_refl 1
  | f + 1 => by
    show prF V St Se Co En n f * _ ≤ 7 ^ (sumF Co f + Co f)
    rw [Nat.pow_add]
    exact Nat.mul_le_mul (prF_le hE f) (Nat.pow_le_pow_left (hE _) _)
theorem sumF_mono {Co : Nat → Nat} {a b : Nat} (h : a ≤ b) : sumF Co a ≤ sumF Co b := by
  induction b with
  | zero => rw [show a = 0 by omega]; exact Nat.le_refl _
  | succ b ih =>
    rcases Nat.lt_or_ge a (b + 1) with q | q
    · exact Nat.le_trans (ih (by omega)) (Nat.le_add_right _ _)
    · rw [show a = b + 1 by omega]; exact Nat.le_refl _
theorem pw7 {k : Nat} (h : k ≤ 16) : 7 ^ k ≤ 33232930569601 := Nat.le_trans (Nat.pow_le_pow_right (by decide) h) (by decide)
/-- the weight of a state with the values St -/
noncomputable def wgF (V Bd St Se Co En : Nat → Nat) (n nf : Nat) : Nat := zif (evP Bd St n) (prF V St Se Co En n nf) 0
end
section
def rm_Mo_in : Room := { frames := 0, cells := 0, slots := 0, locals := 0 }
set_option maxHeartbeats 4000000 in
set_option maxRecDepth 100000 in
theorem c_Mo_in (l : Launch) (G : zG) (v lo hi : Int64)  : Met l yMo_in (.code yMo_in cMo_in 6 (some .boolean) :: zT) rm_Mo_in (zPr G [.long v, .long lo, .long hi] []) (k2_QcV (.int (bI (inZ v lo hi)))) 0 0 (fun _ => False) := by
  refine z_metRz (by decide) (Nat.le_of_ble_eq_true rfl) (fun p e s m args below meth c ls Q Sf r hl hret => ?_)
  have Sf : CallFix p m c cMo_in 6 s args zT RMo := Sf
  have hx := Sf.1
  have hb := Sf.2.1
  have hown := Sf.2.2.2.1
  have hts := Sf.2.2.2.2
  have hl : lv_has ls 6 [(0, .long v), (2, .long lo), (4, .long hi)] := hl
  refine lv_lload_n hx hb dMo_in_0 rfl (lv_at hl 0 rfl) ?_
  refine lv_lload_n hx hb dMo_in_1 rfl (lv_at hl 1 rfl) ?_
  refine W.lcmp hx hb dMo_in_2 ?_
  refine z_lclt (tgt := 17) hx hb dMo_in_3 (by decide) (fun c3 => ?_) (fun c3 => ?_)
  · skip
    refine lv_iconst (v := (nI 0)) hx hb dMo_in_17 (by decide) ?_
    exact hret _ _ _ dMo_in_18 (bI_f (fun h => by first | exact h.1 c3 | exact h.2 c10))
  · skip
    refine lv_lload_n hx hb dMo_in_6 rfl (lv_at hl 0 rfl) ?_
    refine lv_lload hx hb dMo_in_7 (lv_at hl 2 rfl) ?_
    refine W.lcmp hx hb dMo_in_9 ?_
    refine z_lcgt (tgt := 17) hx hb dMo_in_10 (by decide) (fun c10 => ?_) (fun c10 => ?_)
    · skip
      refine lv_iconst (v := (nI 0)) hx hb dMo_in_17 (by decide) ?_
      exact hret _ _ _ dMo_in_18 (bI_f (fun h => by first | exact h.1 c3 | exact h.2 c10))
    · skip
      refine lv_iconst (v := (nI 1)) hx hb dMo_in_13 (by decide) ?_
      refine lv_goto (tgt := 18) hx hb dMo_in_14 (by decide) ?_
      exact hret _ _ _ dMo_in_18 (bI_t ⟨c3, c10⟩)

def rm_Mo_isName : Room := { frames := 1, cells := 0, slots := 0, locals := 40 }
set_option maxHeartbeats 4000000 in
set_option maxRecDepth 100000 in
theorem c_Mo_isName (l : Launch) (G : zG) (m0 av ab apl ase aco aen aor aba ali ale ach ast atw ats : Nat) (n stt nf mem kd sl fi tp th : Nat) (x : Int32) (hn : n ≤ 12) : Met l yMo_isName (.code yMo_isName cMo_isName 2 (some .boolean) :: zT) rm_Mo_isName (zPr G [.ref m0, .int x] [(m0, zO 7 [.int (nI n), .ref av, .ref ab, .ref apl, .int (nI stt), .int (nI nf), .ref ase, .ref aco, .ref aen, .int (nI mem), .int (nI kd), .int (nI sl), .ref aor, .ref aba, .int (nI fi), .ref ali, .ref ale, .ref ach, .ref ast, .ref atw, .ref ats, .int (nI tp), .int (nI th)])]) (k2_QcV (.int (bI (knP x n)))) 0 0 (fun _ => False) := by
  refine z_metRz (by decide) (Nat.le_of_ble_eq_true rfl) (fun p e s m args below meth c ls Q Sf r hl hret => ?_)
  have Sf : CallFix p m c cMo_isName 2 s args zT RMo := Sf
  have hx := Sf.1
  have hb := Sf.2.1
  have hown := Sf.2.2.2.1
  have hts := Sf.2.2.2.2
  have hl : lv_has ls 2 [(0, .ref m0), (1, .int x)] := hl
  refine lv_iload_n hx hb dMo_isName_0 rfl (lv_at hl 1 rfl) ?_
  refine lv_i2l hx hb dMo_isName_1 rfl ?_
  refine lv_lconst (v := lN 0) hx hb dMo_isName_2 (by decide) ?_
  refine lv_aload_n hx hb dMo_isName_3 rfl (lv_at hl 0 rfl) ?_
  refine gf_Mo_68 Sf r 0 rfl rfl dMo_isName_4 ?_
  refine lv_iconst (v := (nI 1)) hx hb dMo_isName_7 (by decide) ?_
  refine z_subM hx hb dMo_isName_8 ?_
  refine lv_i2l hx hb dMo_isName_9 rfl ?_
  refine z_rS (As := [.long x.toInt64, .long (lN 0), .long ((mI n).toInt64)]) (rest := []) Sf (c_Mo_in l G x.toInt64 (lN 0) ((mI n).toInt64) ) mv_Mo_71 ⟨rfl, rfl⟩ ⟨Nat.le_of_ble_eq_true rfl, Nat.le_of_ble_eq_true rfl⟩ r [] rfl rfl hl.1 rfl (Nat.le_of_ble_eq_true rfl) dMo_isName_10 ⟨Nat.le_of_ble_eq_true rfl, Nat.le_of_ble_eq_true rfl⟩ ?_
  exact hret _ _ _ dMo_isName_13 (congrArg bI (propext (in_kn (by omega))))

def rm_Mo_isFactor : Room := { frames := 1, cells := 0, slots := 0, locals := 40 }
set_option maxHeartbeats 4000000 in
set_option maxRecDepth 100000 in
theorem c_Mo_isFactor (l : Launch) (G : zG) (m0 av ab apl ase aco aen aor aba ali ale ach ast atw ats : Nat) (n stt nf mem kd sl fi tp th : Nat) (x : Int32) (hnf : nf ≤ 16) : Met l yMo_isFactor (.code yMo_isFactor cMo_isFactor 2 (some .boolean) :: zT) rm_Mo_isFactor (zPr G [.ref m0, .int x] [(m0, zO 7 [.int (nI n), .ref av, .ref ab, .ref apl, .int (nI stt), .int (nI nf), .ref ase, .ref aco, .ref aen, .int (nI mem), .int (nI kd), .int (nI sl), .ref aor, .ref aba, .int (nI fi), .ref ali, .ref ale, .ref ach, .ref ast, .ref atw, .ref ats, .int (nI tp), .int (nI th)])]) (k2_QcV (.int (bI (knP x nf)))) 0 0 (fun _ => False) := by
  refine z_metRz (by decide) (Nat.le_of_ble_eq_true rfl) (fun p e s m args below meth c ls Q Sf r hl hret => ?_)
  have Sf : CallFix p m c cMo_isFactor 2 s args zT RMo := Sf
  have hx := Sf.1
  have hb := Sf.2.1
  have hown := Sf.2.2.2.1
  have hts := Sf.2.2.2.2
  have hl : lv_has ls 2 [(0, .ref m0), (1, .int x)] := hl
  refine lv_iload_n hx hb dMo_isFactor_0 rfl (lv_at hl 1 rfl) ?_
  refine lv_i2l hx hb dMo_isFactor_1 rfl ?_
  refine lv_lconst (v := lN 0) hx hb dMo_isFactor_2 (by decide) ?_
  refine lv_aload_n hx hb dMo_isFactor_3 rfl (lv_at hl 0 rfl) ?_
  refine gf_Mo_79 Sf r 0 rfl rfl dMo_isFactor_4 ?_
  refine lv_iconst (v := (nI 1)) hx hb dMo_isFactor_7 (by decide) ?_
  refine z_subM hx hb dMo_isFactor_8 ?_
  refine lv_i2l hx hb dMo_isFactor_9 rfl ?_
  refine z_rS (As := [.long x.toInt64, .long (lN 0), .long ((mI nf).toInt64)]) (rest := []) Sf (c_Mo_in l G x.toInt64 (lN 0) ((mI nf).toInt64) ) mv_Mo_71 ⟨rfl, rfl⟩ ⟨Nat.le_of_ble_eq_true rfl, Nat.le_of_ble_eq_true rfl⟩ r [] rfl rfl hl.1 rfl (Nat.le_of_ble_eq_true rfl) dMo_isFactor_10 ⟨Nat.le_of_ble_eq_true rfl, Nat.le_of_ble_eq_true rfl⟩ ?_
  exact hret _ _ _ dMo_isFactor_13 (congrArg bI (propext (in_kn (by omega))))

def rm_Mo_isSet : Room := { frames := 0, cells := 0, slots := 0, locals := 0 }
set_option maxHeartbeats 4000000 in
set_option maxRecDepth 100000 in
theorem c_Mo_isSet (l : Launch) (G : zG) (m0 av ab apl ase aco aen aor aba ali ale ach ast atw ats : Nat) (n stt nf mem kd sl fi tp th : Nat) (x : Int32) (hn : n ≤ 12) : Met l yMo_isSet (.code yMo_isSet cMo_isSet 2 (some .boolean) :: zT) rm_Mo_isSet (zPr G [.ref m0, .int x] [(m0, zO 7 [.int (nI n), .ref av, .ref ab, .ref apl, .int (nI stt), .int (nI nf), .ref ase, .ref aco, .ref aen, .int (nI mem), .int (nI kd), .int (nI sl), .ref aor, .ref aba, .int (nI fi), .ref ali, .ref ale, .ref ach, .ref ast, .ref atw, .ref ats, .int (nI tp), .int (nI th)])]) (k2_QcV (.int (bI (stP x n)))) 0 0 (fun _ => False) := by
  refine z_metRz (by decide) (Nat.le_of_ble_eq_true rfl) (fun p e s m args below meth c ls Q Sf r hl hret => ?_)
  have Sf : CallFix p m c cMo_isSet 2 s args zT RMo := Sf
  have hx := Sf.1
  have hb := Sf.2.1
  have hown := Sf.2.2.2.1
  have hts := Sf.2.2.2.2
  have hl : lv_has ls 2 [(0, .ref m0), (1, .int x)] := hl
  refine lv_iload_n hx hb dMo_isSet_0 rfl (lv_at hl 1 rfl) ?_
  refine lv_if_lt (tgt := 18) hx hb dMo_isSet_1 (by decide) (fun c1 => ?_) (fun c1 => ?_)
  · skip
    refine lv_iconst (v := (nI 0)) hx hb dMo_isSet_18 (by decide) ?_
    exact hret _ _ _ dMo_isSet_19 (bI_f (fun h => by first | exact h.1 c1 | exact h.2 c11))
  · skip
    refine lv_iload_n hx hb dMo_isSet_4 rfl (lv_at hl 1 rfl) ?_
    refine lv_iconst (v := (nI 1)) hx hb dMo_isSet_5 (by decide) ?_
    refine lv_aload_n hx hb dMo_isSet_6 rfl (lv_at hl 0 rfl) ?_
    refine gf_Mo_68 Sf r 0 rfl rfl dMo_isSet_7 ?_
    refine z_shl1 hx hb (by omega) dMo_isSet_10 ?_
    refine lv_icmp_ge (tgt := 18) hx hb dMo_isSet_11 (by decide) (fun c11 => ?_) (fun c11 => ?_)
    · skip
      refine lv_iconst (v := (nI 0)) hx hb dMo_isSet_18 (by decide) ?_
      exact hret _ _ _ dMo_isSet_19 (bI_f (fun h => by first | exact h.1 c1 | exact h.2 c11))
    · skip
      refine lv_iconst (v := (nI 1)) hx hb dMo_isSet_14 (by decide) ?_
      refine lv_goto (tgt := 19) hx hb dMo_isSet_15 (by decide) ?_
      exact hret _ _ _ dMo_isSet_19 (bI_t ⟨c1, c11⟩)

def rm_Mo_many : Room := { frames := 0, cells := 0, slots := 0, locals := 0 }
set_option maxHeartbeats 4000000 in
set_option maxRecDepth 100000 in
theorem c_Mo_many (l : Launch) (G : zG) (S : Nat) (hS : S < 4096) : Met l yMo_many (.code yMo_many cMo_many 3 (some .int) :: zT) rm_Mo_many (zPr G [.int (nI S)] []) (k2_QcV (.int (nI (popc S)))) 0 0 (fun _ => False) := by
  refine z_metRi (by decide) (Nat.le_of_ble_eq_true rfl) (fun p e s m args below meth c ls Q Sf r hl hret => ?_)
  have Sf : CallFix p m c cMo_many 3 s args zT RMo := Sf
  have hx := Sf.1
  have hb := Sf.2.1
  have hown := Sf.2.2.2.1
  have hts := Sf.2.2.2.2
  have hl : lv_has ls 3 [(0, .int (nI S))] := hl
  refine lv_iconst (v := (nI 0)) hx hb dMo_many_0 (by decide) ?_
  refine lv_istore_n (lv' := [(1, .int (nI 0)), (0, .int (nI S))]) hx hb dMo_many_1 rfl hl (by decide) rfl (fun ls hl => ?_)
  refine lv_iconst (v := (nI 0)) hx hb dMo_many_2 (by decide) ?_
  refine lv_istore_n (lv' := [(2, .int (nI 0)), (1, .int (nI 0)), (0, .int (nI S))]) hx hb dMo_many_3 rfl hl (by decide) rfl (fun ls hl => ?_)
  have L4 : ∀ (fu4 : Nat) (i a : Nat), (i ≤ 12) → (a = popP S i) → (12 - i) < fu4 → ∀ (ls : Array Slot), lv_has ls 3 [(2, .int (nI i)), (1, .int (nI a)), (0, .int (nI S))] → W p l e rm_Mo_many s m args below meth c s.heap [] 0 0 Q (F0 m 4 ls []) := by
    intro fu4
    induction fu4 with
    | zero =>
      intro i a hi ha hm4
      exact absurd hm4 (Nat.not_lt_zero _)
    | succ fu4 ih4 =>
      intro i a hi ha hm4 ls hl
      refine lv_iload_n hx hb dMo_many_4 rfl (lv_at hl 0 rfl) ?_
      refine lv_bipush (v := nI 12) hx hb dMo_many_5 (by decide) ?_
      refine z_icmpge (tgt := 24) hx hb (by omega) (by omega) dMo_many_7 (by decide) (fun c7 => ?_) (fun c7 => ?_)
      · skip
        refine lv_iload_n hx hb dMo_many_24 rfl (lv_at hl 1 rfl) ?_
        exact hret _ _ _ dMo_many_25 (by rw [ha, show i = 12 by omega, popP_12])
      · skip
        refine lv_iload_n hx hb dMo_many_10 rfl (lv_at hl 1 rfl) ?_
        refine lv_iload_n hx hb dMo_many_11 rfl (lv_at hl 2 rfl) ?_
        refine lv_iload_n hx hb dMo_many_12 rfl (lv_at hl 0 rfl) ?_
        refine z_shrN hx hb (by omega) (by omega) dMo_many_13 ?_
        refine lv_iconst (v := (nI 1)) hx hb dMo_many_14 (by decide) ?_
        refine z_and1 hx hb dMo_many_15 ?_
        refine z_addN hx hb dMo_many_16 ?_
        refine lv_istore_n (lv' := [(1, .int (nI (a + (bitN S i)))), (2, .int (nI i)), (0, .int (nI S))]) hx hb dMo_many_17 rfl hl (by decide) rfl (fun ls hl => ?_)
        refine z_iinc (d := 1) (lv' := [(2, .int (nI (i + 1))), (1, .int (nI (a + (bitN S i)))), (0, .int (nI S))]) hx hb dMo_many_18 hl (k := 1) rfl (by decide) (by decide) rfl (fun ls hl => ?_)
        refine lv_goto (tgt := 4) hx hb dMo_many_21 (by decide) ?_
        refine ih4 (i + 1) (a + (bitN S i)) ?_ ?_ ?_ ls (lv_sub hl [0, 1, 2] rfl)
        · omega
        · rw [ha]; rfl
        · omega
  refine L4 ((12 - 0) + 1) 0 0 ?_ ?_ ?_ ls (lv_sub hl [0, 1, 2] rfl)
  · omega
  · rfl
  · exact Nat.lt_succ_self _

def rm_Mo_cells : Room := { frames := 0, cells := 0, slots := 0, locals := 0 }
set_option maxHeartbeats 4000000 in
set_option maxRecDepth 100000 in
theorem c_Mo_cells (l : Launch) (G : zG) (m0 av ab apl ase aco aen aor aba ali ale ach ast atw ats : Nat) (n stt nf mem kd sl fi tp th : Nat) (V : Nat → Nat) (S : Nat) (hn : n ≤ 12) (hS : S < 4096) : Met l yMo_cells (.code yMo_cells cMo_cells 4 (some .int) :: zT) rm_Mo_cells (zPr G [.ref m0, .int (nI S)] [(m0, zO 7 [.int (nI n), .ref av, .ref ab, .ref apl, .int (nI stt), .int (nI nf), .ref ase, .ref aco, .ref aen, .int (nI mem), .int (nI kd), .int (nI sl), .ref aor, .ref aba, .int (nI fi), .ref ali, .ref ale, .ref ach, .ref ast, .ref atw, .ref ats, .int (nI tp), .int (nI th)]), (av, zI G 12 (fun j => nI (V j)))]) (k2_QcV (.int (nI (cellsF V S n)))) 0 0 (fun _ => False) := by
  refine z_metRi (by decide) (Nat.le_of_ble_eq_true rfl) (fun p e s m args below meth c ls Q Sf r hl hret => ?_)
  have Sf : CallFix p m c cMo_cells 4 s args zT RMo := Sf
  have hx := Sf.1
  have hb := Sf.2.1
  have hown := Sf.2.2.2.1
  have hts := Sf.2.2.2.2
  have hl : lv_has ls 4 [(0, .ref m0), (1, .int (nI S))] := hl
  refine lv_iconst (v := (nI 1)) hx hb dMo_cells_0 (by decide) ?_
  refine lv_istore_n (lv' := [(2, .int (nI 1)), (0, .ref m0), (1, .int (nI S))]) hx hb dMo_cells_1 rfl hl (by decide) rfl (fun ls hl => ?_)
  refine lv_iconst (v := (nI 0)) hx hb dMo_cells_2 (by decide) ?_
  refine lv_istore_n (lv' := [(3, .int (nI 0)), (2, .int (nI 1)), (0, .ref m0), (1, .int (nI S))]) hx hb dMo_cells_3 rfl hl (by decide) rfl (fun ls hl => ?_)
  have L4 : ∀ (fu4 : Nat) (i a : Nat), (i ≤ n) → (a = cellsF V S i) → (n - i) < fu4 → ∀ (ls : Array Slot), lv_has ls 4 [(3, .int (nI i)), (2, .int (nI a)), (0, .ref m0), (1, .int (nI S))] → W p l e rm_Mo_cells s m args below meth c s.heap [] 0 0 Q (F0 m 4 ls []) := by
    intro fu4
    induction fu4 with
    | zero =>
      intro i a hi ha hm4
      exact absurd hm4 (Nat.not_lt_zero _)
    | succ fu4 ih4 =>
      intro i a hi ha hm4 ls hl
      refine lv_iload_n hx hb dMo_cells_4 rfl (lv_at hl 0 rfl) ?_
      refine lv_aload_n hx hb dMo_cells_5 rfl (lv_at hl 2 rfl) ?_
      refine gf_Mo_68 Sf r 0 rfl rfl dMo_cells_6 ?_
      refine z_icmpge (tgt := 40) hx hb (by omega) (by omega) dMo_cells_9 (by decide) (fun c9 => ?_) (fun c9 => ?_)
      · skip
        refine lv_iload_n hx hb dMo_cells_40 rfl (lv_at hl 1 rfl) ?_
        exact hret _ _ _ dMo_cells_41 (by rw [ha, show i = n by omega])
      · skip
        refine lv_iload_n hx hb dMo_cells_12 rfl (lv_at hl 3 rfl) ?_
        refine lv_iload_n hx hb dMo_cells_13 rfl (lv_at hl 0 rfl) ?_
        refine z_shrN hx hb (by omega) (by omega) dMo_cells_14 ?_
        refine lv_iconst (v := (nI 1)) hx hb dMo_cells_15 (by decide) ?_
        refine z_and1 hx hb dMo_cells_16 ?_
        refine lv_iconst (v := (nI 1)) hx hb dMo_cells_17 (by decide) ?_
        refine z_icmpneSB (tgt := 32) hx hb dMo_cells_18 (by decide) (fun c18 => ?_) (fun c18 => ?_)
        · skip
          refine lv_iload_n hx hb dMo_cells_32 rfl (lv_at hl 1 rfl) ?_
          refine lv_istore_n (lv' := [(2, .int (nI a)), (3, .int (nI i)), (0, .ref m0), (1, .int (nI S))]) hx hb dMo_cells_33 rfl hl (by decide) rfl (fun ls hl => ?_)
          refine z_iinc (d := 1) (lv' := [(3, .int (nI (i + 1))), (2, .int (nI a)), (0, .ref m0), (1, .int (nI S))]) hx hb dMo_cells_34 hl (k := 1) rfl (by decide) (by decide) rfl (fun ls hl => ?_)
          refine lv_goto (tgt := 4) hx hb dMo_cells_37 (by decide) ?_
          refine ih4 (i + 1) _ ?_ ?_ ?_ ls (lv_sub hl [0, 1, 2, 3] rfl)
          · omega
          · first | (rw [cellsF_t c18, ha]) | (rw [cellsF_f c18, ha])
          · omega
        · skip
          refine lv_iload_n hx hb dMo_cells_21 rfl (lv_at hl 1 rfl) ?_
          refine lv_aload_n hx hb dMo_cells_22 rfl (lv_at hl 2 rfl) ?_
          refine gf_Mo_7 Sf r 0 rfl rfl dMo_cells_23 ?_
          refine lv_iload_n hx hb dMo_cells_26 rfl (lv_at hl 0 rfl) ?_
          refine z_iald hx hb r 1 (k := i) rfl (by omega) (by omega) dMo_cells_27 ?_
          refine z_mulN hx hb dMo_cells_28 ?_
          refine lv_goto (tgt := 33) hx hb dMo_cells_29 (by decide) ?_
          refine lv_istore_n (lv' := [(2, .int (nI (a * (V i)))), (3, .int (nI i)), (0, .ref m0), (1, .int (nI S))]) hx hb dMo_cells_33 rfl hl (by decide) rfl (fun ls hl => ?_)
          refine z_iinc (d := 1) (lv' := [(3, .int (nI (i + 1))), (2, .int (nI (a * (V i)))), (0, .ref m0), (1, .int (nI S))]) hx hb dMo_cells_34 hl (k := 1) rfl (by decide) (by decide) rfl (fun ls hl => ?_)
          refine lv_goto (tgt := 4) hx hb dMo_cells_37 (by decide) ?_
          refine ih4 (i + 1) (a * (V i)) ?_ ?_ ?_ ls (lv_sub hl [0, 1, 2, 3] rfl)
          · omega
          · first | (rw [cellsF_t c18, ha]) | (rw [cellsF_f c18, ha])
          · omega
  refine L4 ((n - 0) + 1) 0 1 ?_ ?_ ?_ ls (lv_sub hl [0, 1, 2, 3] rfl)
  · omega
  · rfl
  · exact Nat.lt_succ_self _

def rm_Mo_allCopies : Room := { frames := 0, cells := 0, slots := 0, locals := 0 }
set_option maxHeartbeats 4000000 in
set_option maxRecDepth 100000 in
theorem c_Mo_allCopies (l : Launch) (G : zG) (m0 av ab apl ase aco aen aor aba ali ale ach ast atw ats : Nat) (n stt nf mem kd sl fi tp th : Nat) (Co : Nat → Nat) (hnf : nf ≤ 16) : Met l yMo_allCopies (.code yMo_allCopies cMo_allCopies 3 (some .int) :: zT) rm_Mo_allCopies (zPr G [.ref m0] [(m0, zO 7 [.int (nI n), .ref av, .ref ab, .ref apl, .int (nI stt), .int (nI nf), .ref ase, .ref aco, .ref aen, .int (nI mem), .int (nI kd), .int (nI sl), .ref aor, .ref aba, .int (nI fi), .ref ali, .ref ale, .ref ach, .ref ast, .ref atw, .ref ats, .int (nI tp), .int (nI th)]), (aco, zI G 16 (fun j => nI (Co j)))]) (k2_QcV (.int (nI (sumF Co nf)))) 0 0 (fun _ => False) := by
  refine z_metRi (by decide) (Nat.le_of_ble_eq_true rfl) (fun p e s m args below meth c ls Q Sf r hl hret => ?_)
  have Sf : CallFix p m c cMo_allCopies 3 s args zT RMo := Sf
  have hx := Sf.1
  have hb := Sf.2.1
  have hown := Sf.2.2.2.1
  have hts := Sf.2.2.2.2
  have hl : lv_has ls 3 [(0, .ref m0)] := hl
  refine lv_iconst (v := (nI 0)) hx hb dMo_allCopies_0 (by decide) ?_
  refine lv_istore_n (lv' := [(1, .int (nI 0)), (0, .ref m0)]) hx hb dMo_allCopies_1 rfl hl (by decide) rfl (fun ls hl => ?_)
  refine lv_iconst (v := (nI 0)) hx hb dMo_allCopies_2 (by decide) ?_
  refine lv_istore_n (lv' := [(2, .int (nI 0)), (1, .int (nI 0)), (0, .ref m0)]) hx hb dMo_allCopies_3 rfl hl (by decide) rfl (fun ls hl => ?_)
  have L4 : ∀ (fu4 : Nat) (i a : Nat), (i ≤ nf) → (a = sumF Co i) → (nf - i) < fu4 → ∀ (ls : Array Slot), lv_has ls 3 [(2, .int (nI i)), (1, .int (nI a)), (0, .ref m0)] → W p l e rm_Mo_allCopies s m args below meth c s.heap [] 0 0 Q (F0 m 4 ls []) := by
    intro fu4
    induction fu4 with
    | zero =>
      intro i a hi ha hm4
      exact absurd hm4 (Nat.not_lt_zero _)
    | succ fu4 ih4 =>
      intro i a hi ha hm4 ls hl
      refine lv_iload_n hx hb dMo_allCopies_4 rfl (lv_at hl 0 rfl) ?_
      refine lv_aload_n hx hb dMo_allCopies_5 rfl (lv_at hl 2 rfl) ?_
      refine gf_Mo_79 Sf r 0 rfl rfl dMo_allCopies_6 ?_
      refine z_icmpge (tgt := 27) hx hb (by omega) (by omega) dMo_allCopies_9 (by decide) (fun c9 => ?_) (fun c9 => ?_)
      · skip
        refine lv_iload_n hx hb dMo_allCopies_27 rfl (lv_at hl 1 rfl) ?_
        exact hret _ _ _ dMo_allCopies_28 (by rw [ha, show i = nf by omega])
      · skip
        refine lv_iload_n hx hb dMo_allCopies_12 rfl (lv_at hl 1 rfl) ?_
        refine lv_aload_n hx hb dMo_allCopies_13 rfl (lv_at hl 2 rfl) ?_
        refine gf_Mo_22 Sf r 0 rfl rfl dMo_allCopies_14 ?_
        refine lv_iload_n hx hb dMo_allCopies_17 rfl (lv_at hl 0 rfl) ?_
        refine z_iald hx hb r 1 (k := i) rfl (by omega) (by omega) dMo_allCopies_18 ?_
        refine z_addN hx hb dMo_allCopies_19 ?_
        refine lv_istore_n (lv' := [(1, .int (nI (a + (Co i)))), (2, .int (nI i)), (0, .ref m0)]) hx hb dMo_allCopies_20 rfl hl (by decide) rfl (fun ls hl => ?_)
        refine z_iinc (d := 1) (lv' := [(2, .int (nI (i + 1))), (1, .int (nI (a + (Co i)))), (0, .ref m0)]) hx hb dMo_allCopies_21 hl (k := 1) rfl (by decide) (by decide) rfl (fun ls hl => ?_)
        refine lv_goto (tgt := 4) hx hb dMo_allCopies_24 (by decide) ?_
        refine ih4 (i + 1) (a + (Co i)) ?_ ?_ ?_ ls (lv_sub hl [0, 1, 2] rfl)
        · omega
        · rw [ha]; rfl
        · omega
  refine L4 ((nf - 0) + 1) 0 0 ?_ ?_ ?_ ls (lv_sub hl [0, 1, 2] rfl)
  · omega
  · rfl
  · exact Nat.lt_succ_self _

def rm_Mo_draw : Room := { frames := 0, cells := 0, slots := 0, locals := 0 }
set_option maxHeartbeats 4000000 in
set_option maxRecDepth 100000 in
theorem c_Mo_draw (l : Launch) (G : zG) (m0 av ab apl ase aco aen aor aba ali ale ach ast atw ats : Nat) (n stt nf mem kd sl fi tp th : Nat) (Se Li : Nat → Nat) (hn : n ≤ 12) (hnf : nf ≤ 16) (hSe : ∀ i, Se i < 4096) (sz : Nat) : Met l yMo_draw (.code yMo_draw cMo_draw 3 none :: zT) rm_Mo_draw (zPw G [.ref m0] [(m0, zO 7 [.int (nI n), .ref av, .ref ab, .ref apl, .int (nI stt), .int (nI nf), .ref ase, .ref aco, .ref aen, .int (nI mem), .int (nI kd), .int (nI sl), .ref aor, .ref aba, .int (nI fi), .ref ali, .ref ale, .ref ach, .ref ast, .ref atw, .ref ats, .int (nI tp), .int (nI th)]), (ase, zI G 16 (fun j => nI (Se j))), (ali, zI G 12 (fun j => nI (Li j)))] sz) (zQ (S := Unit) G (fun u => none) (fun u => [(m0, zO 7 [.int (nI n), .ref av, .ref ab, .ref apl, .int (nI stt), .int (nI nf), .ref ase, .ref aco, .ref aen, .int (nI mem), .int (nI kd), .int (nI sl), .ref aor, .ref aba, .int (nI fi), .ref ali, .ref ale, .ref ach, .ref ast, .ref atw, .ref ats, .int (nI tp), .int (nI th)]), (ase, zI G 16 (fun j => nI (Se j))), (ali, zI G 12 (fun j => nI ((rowF Li (drF Se nf) n) j)))]) (va_A [(m0, zO 7 [.int (nI n), .ref av, .ref ab, .ref apl, .int (nI stt), .int (nI nf), .ref ase, .ref aco, .ref aen, .int (nI mem), .int (nI kd), .int (nI sl), .ref aor, .ref aba, .int (nI fi), .ref ali, .ref ale, .ref ach, .ref ast, .ref atw, .ref ats, .int (nI tp), .int (nI th)]), (ase, zI G 16 (fun j => nI (Se j))), (ali, zI G 12 (fun j => nI (Li j)))] sz) (fun u => True)) 0 0 (va_A [(m0, zO 7 [.int (nI n), .ref av, .ref ab, .ref apl, .int (nI stt), .int (nI nf), .ref ase, .ref aco, .ref aen, .int (nI mem), .int (nI kd), .int (nI sl), .ref aor, .ref aba, .int (nI fi), .ref ali, .ref ale, .ref ach, .ref ast, .ref atw, .ref ats, .int (nI tp), .int (nI th)]), (ase, zI G 16 (fun j => nI (Se j))), (ali, zI G 12 (fun j => nI (Li j)))] sz) := by
  refine z_metWv (by decide) (Nat.le_of_ble_eq_true rfl) (fun p e s m args below meth c ls A Q Sf hnm w hl hret => ?_)
  obtain ⟨H, hH⟩ : ∃ H, H = s.heap := ⟨_, rfl⟩
  obtain ⟨locs, hlo⟩ : ∃ L : List Loc, L = [] := ⟨_, rfl⟩
  rw [← hH, ← hlo] at w
  rw [← hH, ← hlo]
  clear hH hlo
  have Sf : CallFix p m c cMo_draw 3 s args zT RMo := Sf
  have hx := Sf.1
  have hb := Sf.2.1
  have hown := Sf.2.2.2.1
  have hts := Sf.2.2.2.2
  have hl : lv_has ls 3 [(0, .ref m0)] := hl
  refine lv_iconst (v := (nI 0)) hx hb dMo_draw_0 (by decide) ?_
  refine lv_istore_n (lv' := [(1, .int (nI 0)), (0, .ref m0)]) hx hb dMo_draw_1 rfl hl (by decide) rfl (fun ls hl => ?_)
  have L2 : ∀ (fu2 : Nat) (a : Nat) (F : Nat → Nat), (a ≤ n) → (F = rowF Li (drF Se nf) a) → (n - a) < fu2 → ∀ (H : Heap) (locs : List Loc), zw G A s [(m0, zO 7 [.int (nI n), .ref av, .ref ab, .ref apl, .int (nI stt), .int (nI nf), .ref ase, .ref aco, .ref aen, .int (nI mem), .int (nI kd), .int (nI sl), .ref aor, .ref aba, .int (nI fi), .ref ali, .ref ale, .ref ach, .ref ast, .ref atw, .ref ats, .int (nI tp), .int (nI th)]), (ase, zI G 16 (fun j => nI (Se j))), (ali, zI G 12 (fun j => nI (F j)))] H locs → ∀ (ls : Array Slot), lv_has ls 3 [(1, .int (nI a)), (0, .ref m0)] → W p l e rm_Mo_draw s m args below meth c H locs 0 0 Q (F0 m 2 ls []) := by
    intro fu2
    induction fu2 with
    | zero =>
      intro a F ha hF hm2
      exact absurd hm2 (Nat.not_lt_zero _)
    | succ fu2 ih2 =>
      intro a F ha hF hm2 H locs w ls hl
      refine lv_iload_n hx hb dMo_draw_2 rfl (lv_at hl 0 rfl) ?_
      refine lv_aload_n hx hb dMo_draw_3 rfl (lv_at hl 1 rfl) ?_
      refine gf_Mo_68 Sf w.1 0 rfl rfl dMo_draw_4 ?_
      refine z_icmpge (tgt := 99) hx hb (by omega) (by omega) dMo_draw_7 (by decide) (fun c7 => ?_) (fun c7 => ?_)
      · skip
        exact hret _ _ _ _ () _ w (by rw [hF, show a = n by omega]) (trivial) dMo_draw_99 rfl
      · skip
        refine lv_aload_n hx hb dMo_draw_10 rfl (lv_at hl 1 rfl) ?_
        refine gf_Mo_34 Sf w.1 0 rfl rfl dMo_draw_11 ?_
        refine lv_iload_n hx hb dMo_draw_14 rfl (lv_at hl 0 rfl) ?_
        refine lv_iconst (v := (nI 0)) hx hb dMo_draw_15 (by decide) ?_
        refine z_iastN hx hb w 2 (k := a) rfl (by omega) (by omega) (ws' := [(m0, zO 7 [.int (nI n), .ref av, .ref ab, .ref apl, .int (nI stt), .int (nI nf), .ref ase, .ref aco, .ref aen, .int (nI mem), .int (nI kd), .int (nI sl), .ref aor, .ref aba, .int (nI fi), .ref ali, .ref ale, .ref ach, .ref ast, .ref atw, .ref ats, .int (nI tp), .int (nI th)]), (ase, zI G 16 (fun j => nI (Se j))), (ali, zI G 12 (fun j => nI ((va_up F a 0) j)))]) rfl dMo_draw_16 (fun H locs w => ?_)
        refine lv_iconst (v := (nI 0)) hx hb dMo_draw_17 (by decide) ?_
        refine lv_istore_n (lv' := [(2, .int (nI 0)), (1, .int (nI a)), (0, .ref m0)]) hx hb dMo_draw_18 rfl hl (by decide) rfl (fun ls hl => ?_)
        have L19 : ∀ (fu19 : Nat) (f : Nat) (F2 : Nat → Nat), (f ≤ nf) → (F2 = va_up F a (orF Se a f)) → (nf - f) < fu19 → ∀ (H : Heap) (locs : List Loc), zw G A s [(m0, zO 7 [.int (nI n), .ref av, .ref ab, .ref apl, .int (nI stt), .int (nI nf), .ref ase, .ref aco, .ref aen, .int (nI mem), .int (nI kd), .int (nI sl), .ref aor, .ref aba, .int (nI fi), .ref ali, .ref ale, .ref ach, .ref ast, .ref atw, .ref ats, .int (nI tp), .int (nI th)]), (ase, zI G 16 (fun j => nI (Se j))), (ali, zI G 12 (fun j => nI (F2 j)))] H locs → ∀ (ls : Array Slot), lv_has ls 3 [(2, .int (nI f)), (1, .int (nI a)), (0, .ref m0)] → W p l e rm_Mo_draw s m args below meth c H locs 0 0 Q (F0 m 19 ls []) := by
          intro fu19
          induction fu19 with
          | zero =>
            intro f F2 hf hF2 hm19
            exact absurd hm19 (Nat.not_lt_zero _)
          | succ fu19 ih19 =>
            intro f F2 hf hF2 hm19 H locs w ls hl
            refine lv_iload_n hx hb dMo_draw_19 rfl (lv_at hl 0 rfl) ?_
            refine lv_aload_n hx hb dMo_draw_20 rfl (lv_at hl 2 rfl) ?_
            refine gf_Mo_79 Sf w.1 0 rfl rfl dMo_draw_21 ?_
            refine z_icmpge (tgt := 75) hx hb (by omega) (by omega) dMo_draw_24 (by decide) (fun c24 => ?_) (fun c24 => ?_)
            · skip
              refine lv_aload_n hx hb dMo_draw_75 rfl (lv_at hl 2 rfl) ?_
              refine gf_Mo_34 Sf w.1 0 rfl rfl dMo_draw_76 ?_
              refine lv_iload_n hx hb dMo_draw_79 rfl (lv_at hl 1 rfl) ?_
              refine lv_aload_n hx hb dMo_draw_80 rfl (lv_at hl 2 rfl) ?_
              refine gf_Mo_34 Sf w.1 0 rfl rfl dMo_draw_81 ?_
              refine lv_iload_n hx hb dMo_draw_84 rfl (lv_at hl 1 rfl) ?_
              refine z_iald hx hb w.1 2 (k := a) rfl (by omega) (by omega) dMo_draw_85 ?_
              refine lv_iconst (v := (nI 1)) hx hb dMo_draw_86 (by decide) ?_
              refine lv_iload_n hx hb dMo_draw_87 rfl (lv_at hl 1 rfl) ?_
              refine z_shl1 hx hb (by omega) dMo_draw_88 ?_
              refine lv_iconst (v := (-1)) hx hb dMo_draw_89 (by decide) ?_
              refine lv_ixor hx hb dMo_draw_90 ?_
              refine z_andC hx hb dMo_draw_91 ?_
              refine z_iastN hx hb w 2 (k := a) rfl (by omega) (by omega) (ws' := [(m0, zO 7 [.int (nI n), .ref av, .ref ab, .ref apl, .int (nI stt), .int (nI nf), .ref ase, .ref aco, .ref aen, .int (nI mem), .int (nI kd), .int (nI sl), .ref aor, .ref aba, .int (nI fi), .ref ali, .ref ale, .ref ach, .ref ast, .ref atw, .ref ats, .int (nI tp), .int (nI th)]), (ase, zI G 16 (fun j => nI (Se j))), (ali, zI G 12 (fun j => nI ((va_up F2 a (sdf (F2 a) (2 ^ a))) j)))]) rfl dMo_draw_92 (fun H locs w => ?_)
              refine z_iinc (d := 1) (lv' := [(1, .int (nI (a + 1))), (2, .int (nI f)), (0, .ref m0)]) hx hb dMo_draw_93 hl (k := 1) rfl (by decide) (by decide) rfl (fun ls hl => ?_)
              refine lv_goto (tgt := 2) hx hb dMo_draw_96 (by decide) ?_
              refine ih2 (a + 1) (va_up F2 a (sdf (F2 a) (2 ^ a))) ?_ ?_ ?_ _ _ w ls (lv_sub hl [0, 2] rfl)
              · omega
              · rw [hF2, bx_uu, va_up_self, hF, ← rowF_s, show f = nf by omega]; rfl
              · omega
            · skip
              refine lv_aload_n hx hb dMo_draw_27 rfl (lv_at hl 2 rfl) ?_
              refine gf_Mo_34 Sf w.1 0 rfl rfl dMo_draw_28 ?_
              refine lv_iload_n hx hb dMo_draw_31 rfl (lv_at hl 1 rfl) ?_
              refine lv_aload_n hx hb dMo_draw_32 rfl (lv_at hl 2 rfl) ?_
              refine gf_Mo_19 Sf w.1 0 rfl rfl dMo_draw_33 ?_
              refine lv_iload_n hx hb dMo_draw_36 rfl (lv_at hl 0 rfl) ?_
              refine z_iald hx hb w.1 1 (k := f) rfl (by omega) (by omega) dMo_draw_37 ?_
              refine lv_iload_n hx hb dMo_draw_38 rfl (lv_at hl 1 rfl) ?_
              refine z_shrN hx hb (Nat.lt_trans (hSe f) (by decide)) (by omega) dMo_draw_39 ?_
              refine lv_iconst (v := (nI 1)) hx hb dMo_draw_40 (by decide) ?_
              refine z_and1 hx hb dMo_draw_41 ?_
              refine lv_iconst (v := (nI 1)) hx hb dMo_draw_42 (by decide) ?_
              refine z_icmpneSB (tgt := 62) hx hb dMo_draw_43 (by decide) (fun c43 => ?_) (fun c43 => ?_)
              · skip
                refine lv_aload_n hx hb dMo_draw_62 rfl (lv_at hl 2 rfl) ?_
                refine gf_Mo_34 Sf w.1 0 rfl rfl dMo_draw_63 ?_
                refine lv_iload_n hx hb dMo_draw_66 rfl (lv_at hl 1 rfl) ?_
                refine z_iald hx hb w.1 2 (k := a) rfl (by omega) (by omega) dMo_draw_67 ?_
                refine z_iastN hx hb w 2 (k := a) rfl (by omega) (by omega) (ws' := [(m0, zO 7 [.int (nI n), .ref av, .ref ab, .ref apl, .int (nI stt), .int (nI nf), .ref ase, .ref aco, .ref aen, .int (nI mem), .int (nI kd), .int (nI sl), .ref aor, .ref aba, .int (nI fi), .ref ali, .ref ale, .ref ach, .ref ast, .ref atw, .ref ats, .int (nI tp), .int (nI th)]), (ase, zI G 16 (fun j => nI (Se j))), (ali, zI G 12 (fun j => nI ((va_up F2 a (F2 a)) j)))]) rfl dMo_draw_68 (fun H locs w => ?_)
                refine z_iinc (d := 1) (lv' := [(2, .int (nI (f + 1))), (1, .int (nI a)), (0, .ref m0)]) hx hb dMo_draw_69 hl (k := 0) rfl (by decide) (by decide) rfl (fun ls hl => ?_)
                refine lv_goto (tgt := 19) hx hb dMo_draw_72 (by decide) ?_
                refine ih19 (f + 1) (va_up F2 a (F2 a)) ?_ ?_ ?_ _ _ w ls (lv_sub hl [0, 1, 2] rfl)
                · omega
                · first | (rw [hF2, bx_uu, va_up_self, orF_t c43]) | (rw [hF2, bx_uu, va_up_self, orF_f c43])
                · omega
              · skip
                refine lv_aload_n hx hb dMo_draw_46 rfl (lv_at hl 2 rfl) ?_
                refine gf_Mo_34 Sf w.1 0 rfl rfl dMo_draw_47 ?_
                refine lv_iload_n hx hb dMo_draw_50 rfl (lv_at hl 1 rfl) ?_
                refine z_iald hx hb w.1 2 (k := a) rfl (by omega) (by omega) dMo_draw_51 ?_
                refine lv_aload_n hx hb dMo_draw_52 rfl (lv_at hl 2 rfl) ?_
                refine gf_Mo_19 Sf w.1 0 rfl rfl dMo_draw_53 ?_
                refine lv_iload_n hx hb dMo_draw_56 rfl (lv_at hl 0 rfl) ?_
                refine z_iald hx hb w.1 1 (k := f) rfl (by omega) (by omega) dMo_draw_57 ?_
                refine z_orN hx hb dMo_draw_58 ?_
                refine lv_goto (tgt := 68) hx hb dMo_draw_59 (by decide) ?_
                refine z_iastN hx hb w 2 (k := a) rfl (by omega) (by omega) (ws' := [(m0, zO 7 [.int (nI n), .ref av, .ref ab, .ref apl, .int (nI stt), .int (nI nf), .ref ase, .ref aco, .ref aen, .int (nI mem), .int (nI kd), .int (nI sl), .ref aor, .ref aba, .int (nI fi), .ref ali, .ref ale, .ref ach, .ref ast, .ref atw, .ref ats, .int (nI tp), .int (nI th)]), (ase, zI G 16 (fun j => nI (Se j))), (ali, zI G 12 (fun j => nI ((va_up F2 a ((F2 a) ||| (Se f))) j)))]) rfl dMo_draw_68 (fun H locs w => ?_)
                refine z_iinc (d := 1) (lv' := [(2, .int (nI (f + 1))), (1, .int (nI a)), (0, .ref m0)]) hx hb dMo_draw_69 hl (k := 0) rfl (by decide) (by decide) rfl (fun ls hl => ?_)
                refine lv_goto (tgt := 19) hx hb dMo_draw_72 (by decide) ?_
                refine ih19 (f + 1) (va_up F2 a ((F2 a) ||| (Se f))) ?_ ?_ ?_ _ _ w ls (lv_sub hl [0, 1, 2] rfl)
                · omega
                · first | (rw [hF2, bx_uu, va_up_self, orF_t c43]) | (rw [hF2, bx_uu, va_up_self, orF_f c43])
                · omega
        refine L19 ((nf - 0) + 1) 0 (va_up F a 0) ?_ ?_ ?_ _ _ w ls (lv_sub hl [0, 1, 2] rfl)
        · omega
        · rfl
        · exact Nat.lt_succ_self _
  refine L2 ((n - 0) + 1) 0 Li ?_ ?_ ?_ _ _ w ls (lv_sub hl [0, 1] rfl)
  · omega
  · exact (rowF_0 _ _).symm
  · exact Nat.lt_succ_self _

def rm_Mo_fill : Room := { frames := 0, cells := 0, slots := 0, locals := 0 }
set_option maxHeartbeats 4000000 in
set_option maxRecDepth 100000 in
theorem c_Mo_fill (l : Launch) (G : zG) (m0 av ab apl ase aco aen aor aba ali ale ach ast atw ats : Nat) (n stt nf mem kd sl fi tp th : Nat) (Li : Nat → Nat) (x : Nat) (hn : n ≤ 12) (hx0 : x < n) (hLi : ∀ i, Li i < 4096) : Met l yMo_fill (.code yMo_fill cMo_fill 6 (some .int) :: zT) rm_Mo_fill (zPr G [.ref m0, .int (nI x)] [(m0, zO 7 [.int (nI n), .ref av, .ref ab, .ref apl, .int (nI stt), .int (nI nf), .ref ase, .ref aco, .ref aen, .int (nI mem), .int (nI kd), .int (nI sl), .ref aor, .ref aba, .int (nI fi), .ref ali, .ref ale, .ref ach, .ref ast, .ref atw, .ref ats, .int (nI tp), .int (nI th)]), (ali, zI G 12 (fun j => nI (Li j)))]) (k2_QcV (.int (nI (filF Li x n)))) 0 0 (fun _ => False) := by
  refine z_metRi (by decide) (Nat.le_of_ble_eq_true rfl) (fun p e s m args below meth c ls Q Sf r hl hret => ?_)
  have Sf : CallFix p m c cMo_fill 6 s args zT RMo := Sf
  have hx := Sf.1
  have hb := Sf.2.1
  have hown := Sf.2.2.2.1
  have hts := Sf.2.2.2.2
  have hl : lv_has ls 6 [(0, .ref m0), (1, .int (nI x))] := hl
  refine lv_iconst (v := (nI 0)) hx hb dMo_fill_0 (by decide) ?_
  refine lv_istore_n (lv' := [(2, .int (nI 0)), (0, .ref m0), (1, .int (nI x))]) hx hb dMo_fill_1 rfl hl (by decide) rfl (fun ls hl => ?_)
  refine lv_iconst (v := (nI 0)) hx hb dMo_fill_2 (by decide) ?_
  refine lv_istore_n (lv' := [(3, .int (nI 0)), (2, .int (nI 0)), (0, .ref m0), (1, .int (nI x))]) hx hb dMo_fill_3 rfl hl (by decide) rfl (fun ls hl => ?_)
  have L4 : ∀ (fu4 : Nat) (b t : Nat), (b ≤ n) → (t = filF Li x b) → (n - b) < fu4 → ∀ (ls : Array Slot), lv_has ls 6 [(3, .int (nI b)), (2, .int (nI t)), (0, .ref m0), (1, .int (nI x))] → W p l e rm_Mo_fill s m args below meth c s.heap [] 0 0 Q (F0 m 4 ls []) := by
    intro fu4
    induction fu4 with
    | zero =>
      intro b t hb0 ht hm4
      exact absurd hm4 (Nat.not_lt_zero _)
    | succ fu4 ih4 =>
      intro b t hb0 ht hm4 ls hl
      refine lv_iload_n hx hb dMo_fill_4 rfl (lv_at hl 0 rfl) ?_
      refine lv_aload_n hx hb dMo_fill_5 rfl (lv_at hl 2 rfl) ?_
      refine gf_Mo_68 Sf r 0 rfl rfl dMo_fill_6 ?_
      refine z_icmpge (tgt := 96) hx hb (by omega) (by omega) dMo_fill_9 (by decide) (fun c9 => ?_) (fun c9 => ?_)
      · skip
        refine lv_iload_n hx hb dMo_fill_96 rfl (lv_at hl 1 rfl) ?_
        exact hret _ _ _ dMo_fill_97 (by rw [ht, show b = n by omega])
      · skip
        refine lv_iconst (v := (nI 0)) hx hb dMo_fill_12 (by decide) ?_
        refine lv_istore (lv' := [(4, .int (nI 0)), (3, .int (nI b)), (2, .int (nI t)), (0, .ref m0), (1, .int (nI x))]) hx hb dMo_fill_13 hl (by decide) rfl (fun ls hl => ?_)
        have L15 : ∀ (fu15 : Nat) (k t2 : Nat), (k ≤ b) → (t2 = filF Li x b + filI Li x b k) → (b - k) < fu15 → ∀ (ls : Array Slot), lv_has ls 6 [(4, .int (nI k)), (3, .int (nI b)), (2, .int (nI t2)), (0, .ref m0), (1, .int (nI x))] → W p l e rm_Mo_fill s m args below meth c s.heap [] 0 0 Q (F0 m 15 ls []) := by
          intro fu15
          induction fu15 with
          | zero =>
            intro k t2 hk ht2 hm15
            exact absurd hm15 (Nat.not_lt_zero _)
          | succ fu15 ih15 =>
            intro k t2 hk ht2 hm15 ls hl
            refine lv_iload hx hb dMo_fill_15 (lv_at hl 0 rfl) ?_
            refine lv_iload_n hx hb dMo_fill_17 rfl (lv_at hl 1 rfl) ?_
            refine z_icmpge (tgt := 90) hx hb (by omega) (by omega) dMo_fill_18 (by decide) (fun c18 => ?_) (fun c18 => ?_)
            · skip
              refine z_iinc (d := 1) (lv' := [(3, .int (nI (b + 1))), (4, .int (nI k)), (2, .int (nI t2)), (0, .ref m0), (1, .int (nI x))]) hx hb dMo_fill_90 hl (k := 1) rfl (by decide) (by decide) rfl (fun ls hl => ?_)
              refine lv_goto (tgt := 4) hx hb dMo_fill_93 (by decide) ?_
              refine ih4 (b + 1) t2 ?_ ?_ ?_ ls (lv_sub hl [0, 2, 3, 4] rfl)
              · omega
              · rw [ht2, show k = b by omega]; rfl
              · omega
            · skip
              refine lv_aload_n hx hb dMo_fill_21 rfl (lv_at hl 3 rfl) ?_
              refine gf_Mo_34 Sf r 0 rfl rfl dMo_fill_22 ?_
              refine lv_iload_n hx hb dMo_fill_25 rfl (lv_at hl 4 rfl) ?_
              refine z_iald hx hb r 1 (k := x) rfl (by omega) (by omega) dMo_fill_26 ?_
              refine lv_iload_n hx hb dMo_fill_27 rfl (lv_at hl 1 rfl) ?_
              refine z_shrN hx hb (Nat.lt_trans (hLi _) (by decide)) (by omega) dMo_fill_28 ?_
              refine lv_iconst (v := (nI 1)) hx hb dMo_fill_29 (by decide) ?_
              refine z_and1 hx hb dMo_fill_30 ?_
              refine lv_iconst (v := (nI 1)) hx hb dMo_fill_31 (by decide) ?_
              refine z_icmpneSB (tgt := 54) hx hb dMo_fill_32 (by decide) (fun c32 => ?_) (fun c32 => ?_)
              · skip
                refine lv_iconst (v := (nI 0)) hx hb dMo_fill_54 (by decide) ?_
                refine lv_istore (lv' := [(5, .int (nI 0)), (4, .int (nI k)), (3, .int (nI b)), (2, .int (nI t2)), (0, .ref m0), (1, .int (nI x))]) hx hb dMo_fill_55 hl (by decide) rfl (fun ls hl => ?_)
                refine lv_iload hx hb dMo_fill_57 (lv_at hl 0 rfl) ?_
                refine z_ifeqN (tgt := 82) hx hb (by decide) dMo_fill_59 (by decide) (fun _ => ?_) (fun q => absurd q (by decide))
                refine lv_iload_n hx hb dMo_fill_82 rfl (lv_at hl 3 rfl) ?_
                refine lv_istore_n (lv' := [(2, .int (nI t2)), (5, .int (nI 0)), (4, .int (nI k)), (3, .int (nI b)), (0, .ref m0), (1, .int (nI x))]) hx hb dMo_fill_83 rfl hl (by decide) rfl (fun ls hl => ?_)
                refine z_iinc (d := 1) (lv' := [(4, .int (nI (k + 1))), (2, .int (nI t2)), (5, .int (nI 0)), (3, .int (nI b)), (0, .ref m0), (1, .int (nI x))]) hx hb dMo_fill_84 hl (k := 2) rfl (by decide) (by decide) rfl (fun ls hl => ?_)
                refine lv_goto (tgt := 15) hx hb dMo_fill_87 (by decide) ?_
                refine ih15 (k + 1) _ ?_ ?_ ?_ ls (lv_sub hl [0, 3, 1, 4, 5] rfl)
                · omega
                · first | (rw [filI_t c32 c47 c73, ht2, Nat.add_assoc]) | (rw [filI_f3 c73, ht2]) | (rw [filI_f2 c47, ht2]) | (rw [filI_f1 c32, ht2])
                · omega
              · skip
                refine lv_aload_n hx hb dMo_fill_35 rfl (lv_at hl 3 rfl) ?_
                refine gf_Mo_34 Sf r 0 rfl rfl dMo_fill_36 ?_
                refine lv_iload_n hx hb dMo_fill_39 rfl (lv_at hl 4 rfl) ?_
                refine z_iald hx hb r 1 (k := x) rfl (by omega) (by omega) dMo_fill_40 ?_
                refine lv_iload hx hb dMo_fill_41 (lv_at hl 0 rfl) ?_
                refine z_shrN hx hb (Nat.lt_trans (hLi _) (by decide)) (by omega) dMo_fill_43 ?_
                refine lv_iconst (v := (nI 1)) hx hb dMo_fill_44 (by decide) ?_
                refine z_and1 hx hb dMo_fill_45 ?_
                refine lv_iconst (v := (nI 1)) hx hb dMo_fill_46 (by decide) ?_
                refine z_icmpneSB (tgt := 54) hx hb dMo_fill_47 (by decide) (fun c47 => ?_) (fun c47 => ?_)
                · skip
                  refine lv_iconst (v := (nI 0)) hx hb dMo_fill_54 (by decide) ?_
                  refine lv_istore (lv' := [(5, .int (nI 0)), (4, .int (nI k)), (3, .int (nI b)), (2, .int (nI t2)), (0, .ref m0), (1, .int (nI x))]) hx hb dMo_fill_55 hl (by decide) rfl (fun ls hl => ?_)
                  refine lv_iload hx hb dMo_fill_57 (lv_at hl 0 rfl) ?_
                  refine z_ifeqN (tgt := 82) hx hb (by decide) dMo_fill_59 (by decide) (fun _ => ?_) (fun q => absurd q (by decide))
                  refine lv_iload_n hx hb dMo_fill_82 rfl (lv_at hl 3 rfl) ?_
                  refine lv_istore_n (lv' := [(2, .int (nI t2)), (5, .int (nI 0)), (4, .int (nI k)), (3, .int (nI b)), (0, .ref m0), (1, .int (nI x))]) hx hb dMo_fill_83 rfl hl (by decide) rfl (fun ls hl => ?_)
                  refine z_iinc (d := 1) (lv' := [(4, .int (nI (k + 1))), (2, .int (nI t2)), (5, .int (nI 0)), (3, .int (nI b)), (0, .ref m0), (1, .int (nI x))]) hx hb dMo_fill_84 hl (k := 2) rfl (by decide) (by decide) rfl (fun ls hl => ?_)
                  refine lv_goto (tgt := 15) hx hb dMo_fill_87 (by decide) ?_
                  refine ih15 (k + 1) _ ?_ ?_ ?_ ls (lv_sub hl [0, 3, 1, 4, 5] rfl)
                  · omega
                  · first | (rw [filI_t c32 c47 c73, ht2, Nat.add_assoc]) | (rw [filI_f3 c73, ht2]) | (rw [filI_f2 c47, ht2]) | (rw [filI_f1 c32, ht2])
                  · omega
                · skip
                  refine lv_iconst (v := (nI 1)) hx hb dMo_fill_50 (by decide) ?_
                  refine lv_goto (tgt := 55) hx hb dMo_fill_51 (by decide) ?_
                  refine lv_istore (lv' := [(5, .int (nI 1)), (4, .int (nI k)), (3, .int (nI b)), (2, .int (nI t2)), (0, .ref m0), (1, .int (nI x))]) hx hb dMo_fill_55 hl (by decide) rfl (fun ls hl => ?_)
                  refine lv_iload hx hb dMo_fill_57 (lv_at hl 0 rfl) ?_
                  refine z_ifeqN (tgt := 82) hx hb (by decide) dMo_fill_59 (by decide) (fun q => absurd q (by decide)) (fun _ => ?_)
                  refine lv_aload_n hx hb dMo_fill_62 rfl (lv_at hl 4 rfl) ?_
                  refine gf_Mo_34 Sf r 0 rfl rfl dMo_fill_63 ?_
                  refine lv_iload_n hx hb dMo_fill_66 rfl (lv_at hl 2 rfl) ?_
                  refine z_iald hx hb r 1 (k := b) rfl (by omega) (by omega) dMo_fill_67 ?_
                  refine lv_iload hx hb dMo_fill_68 (lv_at hl 1 rfl) ?_
                  refine z_shrN hx hb (Nat.lt_trans (hLi _) (by decide)) (by omega) dMo_fill_70 ?_
                  refine lv_iconst (v := (nI 1)) hx hb dMo_fill_71 (by decide) ?_
                  refine z_and1 hx hb dMo_fill_72 ?_
                  refine z_ifneSB (tgt := 82) hx hb dMo_fill_73 (by decide) (fun c73 => ?_) (fun c73 => ?_)
                  · skip
                    refine lv_iload_n hx hb dMo_fill_82 rfl (lv_at hl 3 rfl) ?_
                    refine lv_istore_n (lv' := [(2, .int (nI t2)), (5, .int (nI 1)), (4, .int (nI k)), (3, .int (nI b)), (0, .ref m0), (1, .int (nI x))]) hx hb dMo_fill_83 rfl hl (by decide) rfl (fun ls hl => ?_)
                    refine z_iinc (d := 1) (lv' := [(4, .int (nI (k + 1))), (2, .int (nI t2)), (5, .int (nI 1)), (3, .int (nI b)), (0, .ref m0), (1, .int (nI x))]) hx hb dMo_fill_84 hl (k := 2) rfl (by decide) (by decide) rfl (fun ls hl => ?_)
                    refine lv_goto (tgt := 15) hx hb dMo_fill_87 (by decide) ?_
                    refine ih15 (k + 1) _ ?_ ?_ ?_ ls (lv_sub hl [0, 3, 1, 4, 5] rfl)
                    · omega
                    · first | (rw [filI_t c32 c47 c73, ht2, Nat.add_assoc]) | (rw [filI_f3 c73, ht2]) | (rw [filI_f2 c47, ht2]) | (rw [filI_f1 c32, ht2])
                    · omega
                  · skip
                    refine lv_iload_n hx hb dMo_fill_76 rfl (lv_at hl 3 rfl) ?_
                    refine lv_iconst (v := (nI 1)) hx hb dMo_fill_77 (by decide) ?_
                    refine z_addN hx hb dMo_fill_78 ?_
                    refine lv_goto (tgt := 83) hx hb dMo_fill_79 (by decide) ?_
                    refine lv_istore_n (lv' := [(2, .int (nI (t2 + 1))), (5, .int (nI 1)), (4, .int (nI k)), (3, .int (nI b)), (0, .ref m0), (1, .int (nI x))]) hx hb dMo_fill_83 rfl hl (by decide) rfl (fun ls hl => ?_)
                    refine z_iinc (d := 1) (lv' := [(4, .int (nI (k + 1))), (2, .int (nI (t2 + 1))), (5, .int (nI 1)), (3, .int (nI b)), (0, .ref m0), (1, .int (nI x))]) hx hb dMo_fill_84 hl (k := 2) rfl (by decide) (by decide) rfl (fun ls hl => ?_)
                    refine lv_goto (tgt := 15) hx hb dMo_fill_87 (by decide) ?_
                    refine ih15 (k + 1) (t2 + 1) ?_ ?_ ?_ ls (lv_sub hl [0, 3, 1, 4, 5] rfl)
                    · omega
                    · first | (rw [filI_t c32 c47 c73, ht2, Nat.add_assoc]) | (rw [filI_f3 c73, ht2]) | (rw [filI_f2 c47, ht2]) | (rw [filI_f1 c32, ht2])
                    · omega
        refine L15 ((b - 0) + 1) 0 t ?_ ?_ ?_ ls (lv_sub hl [0, 1, 2, 3, 4] rfl)
        · omega
        · rw [ht]; rfl
        · exact Nat.lt_succ_self _
  refine L4 ((n - 0) + 1) 0 0 ?_ ?_ ?_ ls (lv_sub hl [0, 1, 2, 3] rfl)
  · omega
  · rfl
  · exact Nat.lt_succ_self _

def rm_Mo_takeOut : Room := { frames := 1, cells := 0, slots := 0, locals := 40 }
set_option maxHeartbeats 4000000 in
set_option maxRecDepth 100000 in
theorem c_Mo_takeOut (l : Launch) (G : zG) (m0 av ab apl ase aco aen aor aba ali ale ach ast atw ats : Nat) (n stt nf mem kd sl fi tp th : Nat) (Od Bg Li : Nat → Nat) (x i : Nat) (hn : n ≤ 12) (hx0 : x < n) (hi : i < n) (hLi : ∀ i, Li i < 4096) (sz : Nat) : Met l yMo_takeOut (.code yMo_takeOut cMo_takeOut 5 none :: zT) rm_Mo_takeOut (zPw G [.ref m0, .int (nI x), .int (nI i)] [(m0, zO 7 [.int (nI n), .ref av, .ref ab, .ref apl, .int (nI stt), .int (nI nf), .ref ase, .ref aco, .ref aen, .int (nI mem), .int (nI kd), .int (nI sl), .ref aor, .ref aba, .int (nI fi), .ref ali, .ref ale, .ref ach, .ref ast, .ref atw, .ref ats, .int (nI tp), .int (nI th)]), (aor, zI G 12 (fun j => nI (Od j))), (aba, zI G 12 (fun j => nI (Bg j))), (ali, zI G 12 (fun j => nI (Li j)))] sz) (zQ (S := Unit) G (fun u => none) (fun u => [(m0, zO 7 [.int (nI n), .ref av, .ref ab, .ref apl, .int (nI stt), .int (nI nf), .ref ase, .ref aco, .ref aen, .int (nI mem), .int (nI kd), .int (nI sl), .ref aor, .ref aba, .int (nI (fi + filF Li x n)), .ref ali, .ref ale, .ref ach, .ref ast, .ref atw, .ref ats, .int (nI tp), .int (nI th)]), (aor, zI G 12 (fun j => nI ((va_up Od i x) j))), (aba, zI G 12 (fun j => nI ((va_up Bg i (Li x ||| 2 ^ x)) j))), (ali, zI G 12 (fun j => nI ((toF Li n x) j)))]) (va_A [(m0, zO 7 [.int (nI n), .ref av, .ref ab, .ref apl, .int (nI stt), .int (nI nf), .ref ase, .ref aco, .ref aen, .int (nI mem), .int (nI kd), .int (nI sl), .ref aor, .ref aba, .int (nI fi), .ref ali, .ref ale, .ref ach, .ref ast, .ref atw, .ref ats, .int (nI tp), .int (nI th)]), (aor, zI G 12 (fun j => nI (Od j))), (aba, zI G 12 (fun j => nI (Bg j))), (ali, zI G 12 (fun j => nI (Li j)))] sz) (fun u => True)) 0 0 (va_A [(m0, zO 7 [.int (nI n), .ref av, .ref ab, .ref apl, .int (nI stt), .int (nI nf), .ref ase, .ref aco, .ref aen, .int (nI mem), .int (nI kd), .int (nI sl), .ref aor, .ref aba, .int (nI fi), .ref ali, .ref ale, .ref ach, .ref ast, .ref atw, .ref ats, .int (nI tp), .int (nI th)]), (aor, zI G 12 (fun j => nI (Od j))), (aba, zI G 12 (fun j => nI (Bg j))), (ali, zI G 12 (fun j => nI (Li j)))] sz) := by
  refine z_metWv (by decide) (Nat.le_of_ble_eq_true rfl) (fun p e s m args below meth c ls A Q Sf hnm w hl hret => ?_)
  obtain ⟨H, hH⟩ : ∃ H, H = s.heap := ⟨_, rfl⟩
  obtain ⟨locs, hlo⟩ : ∃ L : List Loc, L = [] := ⟨_, rfl⟩
  rw [← hH, ← hlo] at w
  rw [← hH, ← hlo]
  clear hH hlo
  have Sf : CallFix p m c cMo_takeOut 5 s args zT RMo := Sf
  have hx := Sf.1
  have hb := Sf.2.1
  have hown := Sf.2.2.2.1
  have hts := Sf.2.2.2.2
  have hl : lv_has ls 5 [(0, .ref m0), (1, .int (nI x)), (2, .int (nI i))] := hl
  refine lv_aload_n hx hb dMo_takeOut_0 rfl (lv_at hl 0 rfl) ?_
  refine gf_Mo_28 Sf w.1 0 rfl rfl dMo_takeOut_1 ?_
  refine lv_iload_n hx hb dMo_takeOut_4 rfl (lv_at hl 2 rfl) ?_
  refine lv_iload_n hx hb dMo_takeOut_5 rfl (lv_at hl 1 rfl) ?_
  refine z_iastN hx hb w 1 (k := i) rfl (by omega) (by omega) (ws' := [(m0, zO 7 [.int (nI n), .ref av, .ref ab, .ref apl, .int (nI stt), .int (nI nf), .ref ase, .ref aco, .ref aen, .int (nI mem), .int (nI kd), .int (nI sl), .ref aor, .ref aba, .int (nI fi), .ref ali, .ref ale, .ref ach, .ref ast, .ref atw, .ref ats, .int (nI tp), .int (nI th)]), (aor, zI G 12 (fun j => nI ((va_up Od i x) j))), (aba, zI G 12 (fun j => nI (Bg j))), (ali, zI G 12 (fun j => nI (Li j)))]) rfl dMo_takeOut_6 (fun H locs w => ?_)
  refine lv_aload_n hx hb dMo_takeOut_7 rfl (lv_at hl 0 rfl) ?_
  refine gf_Mo_31 Sf w.1 0 rfl rfl dMo_takeOut_8 ?_
  refine lv_iload_n hx hb dMo_takeOut_11 rfl (lv_at hl 2 rfl) ?_
  refine lv_aload_n hx hb dMo_takeOut_12 rfl (lv_at hl 0 rfl) ?_
  refine gf_Mo_34 Sf w.1 0 rfl rfl dMo_takeOut_13 ?_
  refine lv_iload_n hx hb dMo_takeOut_16 rfl (lv_at hl 1 rfl) ?_
  refine z_iald hx hb w.1 3 (k := x) rfl (by omega) (by omega) dMo_takeOut_17 ?_
  refine lv_iconst (v := (nI 1)) hx hb dMo_takeOut_18 (by decide) ?_
  refine lv_iload_n hx hb dMo_takeOut_19 rfl (lv_at hl 1 rfl) ?_
  refine z_shl1 hx hb (by omega) dMo_takeOut_20 ?_
  refine z_orN hx hb dMo_takeOut_21 ?_
  refine z_iastN hx hb w 2 (k := i) rfl (by omega) (by omega) (ws' := [(m0, zO 7 [.int (nI n), .ref av, .ref ab, .ref apl, .int (nI stt), .int (nI nf), .ref ase, .ref aco, .ref aen, .int (nI mem), .int (nI kd), .int (nI sl), .ref aor, .ref aba, .int (nI fi), .ref ali, .ref ale, .ref ach, .ref ast, .ref atw, .ref ats, .int (nI tp), .int (nI th)]), (aor, zI G 12 (fun j => nI ((va_up Od i x) j))), (aba, zI G 12 (fun j => nI ((va_up Bg i ((Li x) ||| (2 ^ x))) j))), (ali, zI G 12 (fun j => nI (Li j)))]) rfl dMo_takeOut_22 (fun H locs w => ?_)
  refine lv_aload_n hx hb dMo_takeOut_23 rfl (lv_at hl 0 rfl) ?_
  refine lv_dup hx hb dMo_takeOut_24 rfl ?_
  refine gf_Mo_113 Sf w.1 0 rfl rfl dMo_takeOut_25 ?_
  refine lv_aload_n hx hb dMo_takeOut_28 rfl (lv_at hl 0 rfl) ?_
  refine lv_iload_n hx hb dMo_takeOut_29 rfl (lv_at hl 1 rfl) ?_
  refine z_rV (As := [.int (nI x)]) (rest := [.int (nI fi), .ref m0]) Sf (c_Mo_fill l G m0 av ab apl ase aco aen aor aba ali ale ach ast atw ats n stt nf mem kd sl fi tp th Li x (by first | assumption | omega) (by first | assumption | omega) (by first | assumption | omega)) mv_Mo_116 ⟨rfl, rfl⟩ ⟨Nat.le_of_ble_eq_true rfl, Nat.le_of_ble_eq_true rfl⟩ w.1 [0, 3] rfl 0 rfl rfl rfl rfl hl.1 rfl (Nat.le_of_ble_eq_true rfl) dMo_takeOut_30 ⟨Nat.le_of_ble_eq_true rfl, Nat.le_of_ble_eq_true rfl⟩ ?_
  refine z_addN hx hb dMo_takeOut_33 ?_
  refine pf_Mo_113 Sf w 0 rfl rfl rfl (Nat.le_of_ble_eq_true rfl) (ws' := [(m0, zO 7 [.int (nI n), .ref av, .ref ab, .ref apl, .int (nI stt), .int (nI nf), .ref ase, .ref aco, .ref aen, .int (nI mem), .int (nI kd), .int (nI sl), .ref aor, .ref aba, .int (nI (fi + (filF Li x n))), .ref ali, .ref ale, .ref ach, .ref ast, .ref atw, .ref ats, .int (nI tp), .int (nI th)]), (aor, zI G 12 (fun j => nI ((va_up Od i x) j))), (aba, zI G 12 (fun j => nI ((va_up Bg i ((Li x) ||| (2 ^ x))) j))), (ali, zI G 12 (fun j => nI (Li j)))]) rfl dMo_takeOut_34 (fun H locs w => ?_)
  refine lv_aload_n hx hb dMo_takeOut_37 rfl (lv_at hl 0 rfl) ?_
  refine gf_Mo_34 Sf w.1 0 rfl rfl dMo_takeOut_38 ?_
  refine lv_iload_n hx hb dMo_takeOut_41 rfl (lv_at hl 1 rfl) ?_
  refine z_iald hx hb w.1 3 (k := x) rfl (by omega) (by omega) dMo_takeOut_42 ?_
  refine lv_istore_n (lv' := [(3, .int (nI (Li x))), (0, .ref m0), (1, .int (nI x)), (2, .int (nI i))]) hx hb dMo_takeOut_43 rfl hl (by decide) rfl (fun ls hl => ?_)
  refine lv_iconst (v := (nI 0)) hx hb dMo_takeOut_44 (by decide) ?_
  refine lv_istore (lv' := [(4, .int (nI 0)), (3, .int (nI (Li x))), (0, .ref m0), (1, .int (nI x)), (2, .int (nI i))]) hx hb dMo_takeOut_45 hl (by decide) rfl (fun ls hl => ?_)
  have L47 : ∀ (fu47 : Nat) (b : Nat) (F : Nat → Nat), (b ≤ n) → (F = rowF Li (toB Li x) b) → (n - b) < fu47 → ∀ (H : Heap) (locs : List Loc), zw G A s [(m0, zO 7 [.int (nI n), .ref av, .ref ab, .ref apl, .int (nI stt), .int (nI nf), .ref ase, .ref aco, .ref aen, .int (nI mem), .int (nI kd), .int (nI sl), .ref aor, .ref aba, .int (nI (fi + filF Li x n)), .ref ali, .ref ale, .ref ach, .ref ast, .ref atw, .ref ats, .int (nI tp), .int (nI th)]), (aor, zI G 12 (fun j => nI ((va_up Od i x) j))), (aba, zI G 12 (fun j => nI ((va_up Bg i (Li x ||| 2 ^ x)) j))), (ali, zI G 12 (fun j => nI (F j)))] H locs → ∀ (ls : Array Slot), lv_has ls 5 [(4, .int (nI b)), (3, .int (nI (Li x))), (0, .ref m0), (1, .int (nI x)), (2, .int (nI i))] → W p l e rm_Mo_takeOut s m args below meth c H locs 0 0 Q (F0 m 47 ls []) := by
    intro fu47
    induction fu47 with
    | zero =>
      intro b F hb0 hF hm47
      exact absurd hm47 (Nat.not_lt_zero _)
    | succ fu47 ih47 =>
      intro b F hb0 hF hm47 H locs w ls hl
      refine lv_iload hx hb dMo_takeOut_47 (lv_at hl 0 rfl) ?_
      refine lv_aload_n hx hb dMo_takeOut_49 rfl (lv_at hl 2 rfl) ?_
      refine gf_Mo_68 Sf w.1 0 rfl rfl dMo_takeOut_50 ?_
      refine z_icmpge (tgt := 101) hx hb (by omega) (by omega) dMo_takeOut_53 (by decide) (fun c53 => ?_) (fun c53 => ?_)
      · skip
        refine lv_aload_n hx hb dMo_takeOut_101 rfl (lv_at hl 2 rfl) ?_
        refine gf_Mo_34 Sf w.1 0 rfl rfl dMo_takeOut_102 ?_
        refine lv_iload_n hx hb dMo_takeOut_105 rfl (lv_at hl 3 rfl) ?_
        refine lv_iconst (v := (nI 0)) hx hb dMo_takeOut_106 (by decide) ?_
        refine z_iastN hx hb w 3 (k := x) rfl (by omega) (by omega) (ws' := [(m0, zO 7 [.int (nI n), .ref av, .ref ab, .ref apl, .int (nI stt), .int (nI nf), .ref ase, .ref aco, .ref aen, .int (nI mem), .int (nI kd), .int (nI sl), .ref aor, .ref aba, .int (nI (fi + filF Li x n)), .ref ali, .ref ale, .ref ach, .ref ast, .ref atw, .ref ats, .int (nI tp), .int (nI th)]), (aor, zI G 12 (fun j => nI ((va_up Od i x) j))), (aba, zI G 12 (fun j => nI ((va_up Bg i (Li x ||| 2 ^ x)) j))), (ali, zI G 12 (fun j => nI ((va_up F x 0) j)))]) rfl dMo_takeOut_107 (fun H locs w => ?_)
        exact hret _ _ _ _ () _ w (by rw [hF, show b = n by omega]; rfl) (trivial) dMo_takeOut_108 rfl
      · skip
        refine lv_iload_n hx hb dMo_takeOut_56 rfl (lv_at hl 1 rfl) ?_
        refine lv_iload hx hb dMo_takeOut_57 (lv_at hl 0 rfl) ?_
        refine z_shrN hx hb (Nat.lt_trans (hLi _) (by decide)) (by omega) dMo_takeOut_59 ?_
        refine lv_iconst (v := (nI 1)) hx hb dMo_takeOut_60 (by decide) ?_
        refine z_and1 hx hb dMo_takeOut_61 ?_
        refine lv_iconst (v := (nI 1)) hx hb dMo_takeOut_62 (by decide) ?_
        refine z_icmpneSB (tgt := 95) hx hb dMo_takeOut_63 (by decide) (fun c63 => ?_) (fun c63 => ?_)
        · skip
          refine z_iinc (d := 1) (lv' := [(4, .int (nI (b + 1))), (3, .int (nI (Li x))), (0, .ref m0), (1, .int (nI x)), (2, .int (nI i))]) hx hb dMo_takeOut_95 hl (k := 0) rfl (by decide) (by decide) rfl (fun ls hl => ?_)
          refine lv_goto (tgt := 47) hx hb dMo_takeOut_98 (by decide) ?_
          refine ih47 (b + 1) F ?_ ?_ ?_ _ _ w ls (lv_sub hl [0, 1, 2, 3, 4] rfl)
          · omega
          · first | (rw [hF, rowF_ge (Nat.le_refl b), ← rowF_s]; unfold toB; rw [if_pos c63]) | (rw [hF, rowF_skip]; unfold toB; rw [if_neg (by rw [c63]; decide)])
          · omega
        · skip
          refine lv_aload_n hx hb dMo_takeOut_66 rfl (lv_at hl 2 rfl) ?_
          refine gf_Mo_34 Sf w.1 0 rfl rfl dMo_takeOut_67 ?_
          refine lv_iload hx hb dMo_takeOut_70 (lv_at hl 0 rfl) ?_
          refine lv_aload_n hx hb dMo_takeOut_72 rfl (lv_at hl 2 rfl) ?_
          refine gf_Mo_34 Sf w.1 0 rfl rfl dMo_takeOut_73 ?_
          refine lv_iload hx hb dMo_takeOut_76 (lv_at hl 0 rfl) ?_
          refine z_iald hx hb w.1 3 (k := b) rfl (by omega) (by omega) dMo_takeOut_78 ?_
          refine lv_iload_n hx hb dMo_takeOut_79 rfl (lv_at hl 1 rfl) ?_
          refine z_orN hx hb dMo_takeOut_80 ?_
          refine lv_iconst (v := (nI 1)) hx hb dMo_takeOut_81 (by decide) ?_
          refine lv_iload hx hb dMo_takeOut_82 (lv_at hl 0 rfl) ?_
          refine z_shl1 hx hb (by omega) dMo_takeOut_84 ?_
          refine lv_iconst (v := (-1)) hx hb dMo_takeOut_85 (by decide) ?_
          refine lv_ixor hx hb dMo_takeOut_86 ?_
          refine z_andC hx hb dMo_takeOut_87 ?_
          refine lv_iconst (v := (nI 1)) hx hb dMo_takeOut_88 (by decide) ?_
          refine lv_iload_n hx hb dMo_takeOut_89 rfl (lv_at hl 3 rfl) ?_
          refine z_shl1 hx hb (by omega) dMo_takeOut_90 ?_
          refine lv_iconst (v := (-1)) hx hb dMo_takeOut_91 (by decide) ?_
          refine lv_ixor hx hb dMo_takeOut_92 ?_
          refine z_andC hx hb dMo_takeOut_93 ?_
          refine z_iastN hx hb w 3 (k := b) rfl (by omega) (by omega) (ws' := [(m0, zO 7 [.int (nI n), .ref av, .ref ab, .ref apl, .int (nI stt), .int (nI nf), .ref ase, .ref aco, .ref aen, .int (nI mem), .int (nI kd), .int (nI sl), .ref aor, .ref aba, .int (nI (fi + filF Li x n)), .ref ali, .ref ale, .ref ach, .ref ast, .ref atw, .ref ats, .int (nI tp), .int (nI th)]), (aor, zI G 12 (fun j => nI ((va_up Od i x) j))), (aba, zI G 12 (fun j => nI ((va_up Bg i (Li x ||| 2 ^ x)) j))), (ali, zI G 12 (fun j => nI ((va_up F b (sdf (sdf ((F b) ||| (Li x)) (2 ^ b)) (2 ^ x))) j)))]) rfl dMo_takeOut_94 (fun H locs w => ?_)
          refine z_iinc (d := 1) (lv' := [(4, .int (nI (b + 1))), (3, .int (nI (Li x))), (0, .ref m0), (1, .int (nI x)), (2, .int (nI i))]) hx hb dMo_takeOut_95 hl (k := 0) rfl (by decide) (by decide) rfl (fun ls hl => ?_)
          refine lv_goto (tgt := 47) hx hb dMo_takeOut_98 (by decide) ?_
          refine ih47 (b + 1) (va_up F b (sdf (sdf ((F b) ||| (Li x)) (2 ^ b)) (2 ^ x))) ?_ ?_ ?_ _ _ w ls (lv_sub hl [0, 1, 2, 3, 4] rfl)
          · omega
          · first | (rw [hF, rowF_ge (Nat.le_refl b), ← rowF_s]; unfold toB; rw [if_pos c63]) | (rw [hF, rowF_skip]; unfold toB; rw [if_neg (by rw [c63]; decide)])
          · omega
  refine L47 ((n - 0) + 1) 0 Li ?_ ?_ ?_ _ _ w ls (lv_sub hl [0, 1, 2, 3, 4] rfl)
  · omega
  · exact (rowF_0 _ _).symm
  · exact Nat.lt_succ_self _
end
section
def rm_Mo_width : Room := { frames := 1, cells := 0, slots := 0, locals := 40 }
set_option maxHeartbeats 4000000 in
set_option maxRecDepth 100000 in
theorem c_Mo_width (l : Launch) (G : zG) (m0 av ab apl ase aco aen aor aba ali ale ach ast atw ats : Nat) (n stt nf mem kd sl fi tp th : Nat) (Bg : Nat → Nat) (hn : n ≤ 12) (hBg : ∀ i, Bg i < 4096) : Met l yMo_width (.code yMo_width cMo_width 3 (some .int) :: zT) rm_Mo_width (zPr G [.ref m0] [(m0, zO 7 [.int (nI n), .ref av, .ref ab, .ref apl, .int (nI stt), .int (nI nf), .ref ase, .ref aco, .ref aen, .int (nI mem), .int (nI kd), .int (nI sl), .ref aor, .ref aba, .int (nI fi), .ref ali, .ref ale, .ref ach, .ref ast, .ref atw, .ref ats, .int (nI tp), .int (nI th)]), (aba, zI G 12 (fun j => nI (Bg j)))]) (k2_QcV (.int (mI (wdF Bg n)))) 0 0 (fun _ => False) := by
  refine z_metRi (by decide) (Nat.le_of_ble_eq_true rfl) (fun p e s m args below meth c ls Q Sf r hl hret => ?_)
  have Sf : CallFix p m c cMo_width 3 s args zT RMo := Sf
  have hx := Sf.1
  have hb := Sf.2.1
  have hown := Sf.2.2.2.1
  have hts := Sf.2.2.2.2
  have hl : lv_has ls 3 [(0, .ref m0)] := hl
  refine lv_iconst (v := (mI 0)) hx hb dMo_width_0 (by decide) ?_
  refine lv_istore_n (lv' := [(1, .int (mI 0)), (0, .ref m0)]) hx hb dMo_width_1 rfl hl (by decide) rfl (fun ls hl => ?_)
  refine lv_iconst (v := (nI 0)) hx hb dMo_width_2 (by decide) ?_
  refine lv_istore_n (lv' := [(2, .int (nI 0)), (1, .int (mI 0)), (0, .ref m0)]) hx hb dMo_width_3 rfl hl (by decide) rfl (fun ls hl => ?_)
  have L4 : ∀ (fu4 : Nat) (i w : Nat), (i ≤ n) → (w = wdF Bg i) → (w ≤ 12) → (n - i) < fu4 → ∀ (ls : Array Slot), lv_has ls 3 [(2, .int (nI i)), (1, .int (mI w)), (0, .ref m0)] → W p l e rm_Mo_width s m args below meth c s.heap [] 0 0 Q (F0 m 4 ls []) := by
    intro fu4
    induction fu4 with
    | zero =>
      intro i w hi hw hw2 hm4
      exact absurd hm4 (Nat.not_lt_zero _)
    | succ fu4 ih4 =>
      intro i w hi hw hw2 hm4 ls hl
      have hp := popc_le (Bg i) (hBg i)
      refine lv_iload_n hx hb dMo_width_4 rfl (lv_at hl 0 rfl) ?_
      refine lv_aload_n hx hb dMo_width_5 rfl (lv_at hl 2 rfl) ?_
      refine gf_Mo_68 Sf r 0 rfl rfl dMo_width_6 ?_
      refine z_icmpge (tgt := 49) hx hb (by omega) (by omega) dMo_width_9 (by decide) (fun c9 => ?_) (fun c9 => ?_)
      · skip
        refine lv_iload_n hx hb dMo_width_49 rfl (lv_at hl 1 rfl) ?_
        exact hret _ _ _ dMo_width_50 (by rw [hw, show i = n by omega])
      · skip
        refine lv_aload_n hx hb dMo_width_12 rfl (lv_at hl 2 rfl) ?_
        refine gf_Mo_31 Sf r 0 rfl rfl dMo_width_13 ?_
        refine lv_iload_n hx hb dMo_width_16 rfl (lv_at hl 0 rfl) ?_
        refine z_iald hx hb r 1 (k := i) rfl (by omega) (by omega) dMo_width_17 ?_
        refine z_rS (As := [.int (nI (Bg i))]) (rest := []) Sf (c_Mo_many l G (Bg i) (hBg i)) mv_Mo_86 ⟨rfl, rfl⟩ ⟨Nat.le_of_ble_eq_true rfl, Nat.le_of_ble_eq_true rfl⟩ r [] rfl rfl hl.1 rfl (Nat.le_of_ble_eq_true rfl) dMo_width_18 ⟨Nat.le_of_ble_eq_true rfl, Nat.le_of_ble_eq_true rfl⟩ ?_
        refine lv_iconst (v := (nI 1)) hx hb dMo_width_21 (by decide) ?_
        refine z_subM hx hb dMo_width_22 ?_
        refine lv_iload_n hx hb dMo_width_23 rfl (lv_at hl 1 rfl) ?_
        refine z_icmpleMM (tgt := 41) hx hb (by omega) (by omega) dMo_width_24 (by decide) (fun c24 => ?_) (fun c24 => ?_)
        · skip
          refine lv_iload_n hx hb dMo_width_41 rfl (lv_at hl 1 rfl) ?_
          refine lv_istore_n (lv' := [(1, .int (mI w)), (2, .int (nI i)), (0, .ref m0)]) hx hb dMo_width_42 rfl hl (by decide) rfl (fun ls hl => ?_)
          refine z_iinc (d := 1) (lv' := [(2, .int (nI (i + 1))), (1, .int (mI w)), (0, .ref m0)]) hx hb dMo_width_43 hl (k := 1) rfl (by decide) (by decide) rfl (fun ls hl => ?_)
          refine lv_goto (tgt := 4) hx hb dMo_width_46 (by decide) ?_
          refine ih4 (i + 1) _ ?_ ?_ ?_ ?_ ls (lv_sub hl [0, 1, 2] rfl)
          · omega
          · simp only [wdF]; rw [← hw]; omega
          · omega
          · omega
        · skip
          refine lv_aload_n hx hb dMo_width_27 rfl (lv_at hl 2 rfl) ?_
          refine gf_Mo_31 Sf r 0 rfl rfl dMo_width_28 ?_
          refine lv_iload_n hx hb dMo_width_31 rfl (lv_at hl 0 rfl) ?_
          refine z_iald hx hb r 1 (k := i) rfl (by omega) (by omega) dMo_width_32 ?_
          refine z_rS (As := [.int (nI (Bg i))]) (rest := []) Sf (c_Mo_many l G (Bg i) (hBg i)) mv_Mo_86 ⟨rfl, rfl⟩ ⟨Nat.le_of_ble_eq_true rfl, Nat.le_of_ble_eq_true rfl⟩ r [] rfl rfl hl.1 rfl (Nat.le_of_ble_eq_true rfl) dMo_width_33 ⟨Nat.le_of_ble_eq_true rfl, Nat.le_of_ble_eq_true rfl⟩ ?_
          refine lv_iconst (v := (nI 1)) hx hb dMo_width_36 (by decide) ?_
          refine z_subM hx hb dMo_width_37 ?_
          refine lv_goto (tgt := 42) hx hb dMo_width_38 (by decide) ?_
          refine lv_istore_n (lv' := [(1, .int (mI (popc (Bg i)))), (2, .int (nI i)), (0, .ref m0)]) hx hb dMo_width_42 rfl hl (by decide) rfl (fun ls hl => ?_)
          refine z_iinc (d := 1) (lv' := [(2, .int (nI (i + 1))), (1, .int (mI (popc (Bg i)))), (0, .ref m0)]) hx hb dMo_width_43 hl (k := 1) rfl (by decide) (by decide) rfl (fun ls hl => ?_)
          refine lv_goto (tgt := 4) hx hb dMo_width_46 (by decide) ?_
          refine ih4 (i + 1) (popc (Bg i)) ?_ ?_ ?_ ?_ ls (lv_sub hl [0, 1, 2] rfl)
          · omega
          · simp only [wdF]; rw [← hw]; omega
          · omega
          · omega
  refine L4 ((n - 0) + 1) 0 0 ?_ ?_ ?_ ?_ ls (lv_sub hl [0, 1, 2] rfl)
  · omega
  · rfl
  · omega
  · exact Nat.lt_succ_self _

def rm_Mo_mostCells : Room := { frames := 1, cells := 0, slots := 0, locals := 40 }
set_option maxHeartbeats 4000000 in
set_option maxRecDepth 100000 in
theorem c_Mo_mostCells (l : Launch) (G : zG) (m0 av ab apl ase aco aen aor aba ali ale ach ast atw ats : Nat) (n stt nf mem kd sl fi tp th : Nat) (V Bg : Nat → Nat) (hn : n ≤ 12) (hV : ∀ j, V j ≤ 4) (hBg : ∀ i, Bg i < 4096) : Met l yMo_mostCells (.code yMo_mostCells cMo_mostCells 3 (some .int) :: zT) rm_Mo_mostCells (zPr G [.ref m0] [(m0, zO 7 [.int (nI n), .ref av, .ref ab, .ref apl, .int (nI stt), .int (nI nf), .ref ase, .ref aco, .ref aen, .int (nI mem), .int (nI kd), .int (nI sl), .ref aor, .ref aba, .int (nI fi), .ref ali, .ref ale, .ref ach, .ref ast, .ref atw, .ref ats, .int (nI tp), .int (nI th)]), (av, zI G 12 (fun j => nI (V j))), (aba, zI G 12 (fun j => nI (Bg j)))]) (k2_QcV (.int (nI (mcF V Bg n n)))) 0 0 (fun _ => False) := by
  refine z_metRi (by decide) (Nat.le_of_ble_eq_true rfl) (fun p e s m args below meth c ls Q Sf r hl hret => ?_)
  have Sf : CallFix p m c cMo_mostCells 3 s args zT RMo := Sf
  have hx := Sf.1
  have hb := Sf.2.1
  have hown := Sf.2.2.2.1
  have hts := Sf.2.2.2.2
  have hl : lv_has ls 3 [(0, .ref m0)] := hl
  refine lv_iconst (v := (nI 0)) hx hb dMo_mostCells_0 (by decide) ?_
  refine lv_istore_n (lv' := [(1, .int (nI 0)), (0, .ref m0)]) hx hb dMo_mostCells_1 rfl hl (by decide) rfl (fun ls hl => ?_)
  refine lv_iconst (v := (nI 0)) hx hb dMo_mostCells_2 (by decide) ?_
  refine lv_istore_n (lv' := [(2, .int (nI 0)), (1, .int (nI 0)), (0, .ref m0)]) hx hb dMo_mostCells_3 rfl hl (by decide) rfl (fun ls hl => ?_)
  have L4 : ∀ (fu4 : Nat) (i w : Nat), (i ≤ n) → (w = mcF V Bg n i) → (n - i) < fu4 → ∀ (ls : Array Slot), lv_has ls 3 [(2, .int (nI i)), (1, .int (nI w)), (0, .ref m0)] → W p l e rm_Mo_mostCells s m args below meth c s.heap [] 0 0 Q (F0 m 4 ls []) := by
    intro fu4
    induction fu4 with
    | zero =>
      intro i w hi hw hm4
      exact absurd hm4 (Nat.not_lt_zero _)
    | succ fu4 ih4 =>
      intro i w hi hw hm4 ls hl
      have hp := cellsF_b hV (Bg i) hn
      have hq := mcF_b (Bg := Bg) hV hn i
      refine lv_iload_n hx hb dMo_mostCells_4 rfl (lv_at hl 0 rfl) ?_
      refine lv_aload_n hx hb dMo_mostCells_5 rfl (lv_at hl 2 rfl) ?_
      refine gf_Mo_68 Sf r 0 rfl rfl dMo_mostCells_6 ?_
      refine z_icmpge (tgt := 47) hx hb (by omega) (by omega) dMo_mostCells_9 (by decide) (fun c9 => ?_) (fun c9 => ?_)
      · skip
        refine lv_iload_n hx hb dMo_mostCells_47 rfl (lv_at hl 1 rfl) ?_
        exact hret _ _ _ dMo_mostCells_48 (by rw [hw, show i = n by omega])
      · skip
        refine lv_aload_n hx hb dMo_mostCells_12 rfl (lv_at hl 2 rfl) ?_
        refine lv_aload_n hx hb dMo_mostCells_13 rfl (lv_at hl 2 rfl) ?_
        refine gf_Mo_31 Sf r 0 rfl rfl dMo_mostCells_14 ?_
        refine lv_iload_n hx hb dMo_mostCells_17 rfl (lv_at hl 0 rfl) ?_
        refine z_iald hx hb r 2 (k := i) rfl (by omega) (by omega) dMo_mostCells_18 ?_
        refine z_rV (As := [.int (nI (Bg i))]) (rest := []) Sf (c_Mo_cells l G m0 av ab apl ase aco aen aor aba ali ale ach ast atw ats n stt nf mem kd sl fi tp th V (Bg i) (by first | assumption | omega) (hBg i)) mv_Mo_97 ⟨rfl, rfl⟩ ⟨Nat.le_of_ble_eq_true rfl, Nat.le_of_ble_eq_true rfl⟩ r [0, 1] rfl 0 rfl rfl rfl rfl hl.1 rfl (Nat.le_of_ble_eq_true rfl) dMo_mostCells_19 ⟨Nat.le_of_ble_eq_true rfl, Nat.le_of_ble_eq_true rfl⟩ ?_
        refine lv_iload_n hx hb dMo_mostCells_22 rfl (lv_at hl 1 rfl) ?_
        refine z_icmple (tgt := 39) hx hb (by omega) (by omega) dMo_mostCells_23 (by decide) (fun c23 => ?_) (fun c23 => ?_)
        · skip
          refine lv_iload_n hx hb dMo_mostCells_39 rfl (lv_at hl 1 rfl) ?_
          refine lv_istore_n (lv' := [(1, .int (nI w)), (2, .int (nI i)), (0, .ref m0)]) hx hb dMo_mostCells_40 rfl hl (by decide) rfl (fun ls hl => ?_)
          refine z_iinc (d := 1) (lv' := [(2, .int (nI (i + 1))), (1, .int (nI w)), (0, .ref m0)]) hx hb dMo_mostCells_41 hl (k := 1) rfl (by decide) (by decide) rfl (fun ls hl => ?_)
          refine lv_goto (tgt := 4) hx hb dMo_mostCells_44 (by decide) ?_
          refine ih4 (i + 1) _ ?_ ?_ ?_ ls (lv_sub hl [0, 1, 2] rfl)
          · omega
          · simp only [mcF]; rw [← hw]; omega
          · omega
        · skip
          refine lv_aload_n hx hb dMo_mostCells_26 rfl (lv_at hl 2 rfl) ?_
          refine lv_aload_n hx hb dMo_mostCells_27 rfl (lv_at hl 2 rfl) ?_
          refine gf_Mo_31 Sf r 0 rfl rfl dMo_mostCells_28 ?_
          refine lv_iload_n hx hb dMo_mostCells_31 rfl (lv_at hl 0 rfl) ?_
          refine z_iald hx hb r 2 (k := i) rfl (by omega) (by omega) dMo_mostCells_32 ?_
          refine z_rV (As := [.int (nI (Bg i))]) (rest := []) Sf (c_Mo_cells l G m0 av ab apl ase aco aen aor aba ali ale ach ast atw ats n stt nf mem kd sl fi tp th V (Bg i) (by first | assumption | omega) (hBg i)) mv_Mo_97 ⟨rfl, rfl⟩ ⟨Nat.le_of_ble_eq_true rfl, Nat.le_of_ble_eq_true rfl⟩ r [0, 1] rfl 0 rfl rfl rfl rfl hl.1 rfl (Nat.le_of_ble_eq_true rfl) dMo_mostCells_33 ⟨Nat.le_of_ble_eq_true rfl, Nat.le_of_ble_eq_true rfl⟩ ?_
          refine lv_goto (tgt := 40) hx hb dMo_mostCells_36 (by decide) ?_
          refine lv_istore_n (lv' := [(1, .int (nI (cellsF V (Bg i) n))), (2, .int (nI i)), (0, .ref m0)]) hx hb dMo_mostCells_40 rfl hl (by decide) rfl (fun ls hl => ?_)
          refine z_iinc (d := 1) (lv' := [(2, .int (nI (i + 1))), (1, .int (nI (cellsF V (Bg i) n))), (0, .ref m0)]) hx hb dMo_mostCells_41 hl (k := 1) rfl (by decide) (by decide) rfl (fun ls hl => ?_)
          refine lv_goto (tgt := 4) hx hb dMo_mostCells_44 (by decide) ?_
          refine ih4 (i + 1) (cellsF V (Bg i) n) ?_ ?_ ?_ ls (lv_sub hl [0, 1, 2] rfl)
          · omega
          · simp only [mcF]; rw [← hw]; omega
          · omega
  refine L4 ((n - 0) + 1) 0 0 ?_ ?_ ?_ ls (lv_sub hl [0, 1, 2] rfl)
  · omega
  · rfl
  · exact Nat.lt_succ_self _

def rm_Mo_pairs : Room := { frames := 1, cells := 0, slots := 0, locals := 40 }
set_option maxHeartbeats 4000000 in
set_option maxRecDepth 100000 in
theorem c_Mo_pairs (l : Launch) (G : zG) (m0 av ab apl ase aco aen aor aba ali ale ach ast atw ats : Nat) (n stt nf mem kd sl fi tp th : Nat) (Se Li : Nat → Nat) (hn : n ≤ 12) (hnf : nf ≤ 16) (hSe : ∀ i, Se i < 4096) (hLi : ∀ i, Li i < 4096) (sz : Nat) : Met l yMo_pairs (.code yMo_pairs cMo_pairs 3 (some .int) :: zT) rm_Mo_pairs (zPw G [.ref m0] [(m0, zO 7 [.int (nI n), .ref av, .ref ab, .ref apl, .int (nI stt), .int (nI nf), .ref ase, .ref aco, .ref aen, .int (nI mem), .int (nI kd), .int (nI sl), .ref aor, .ref aba, .int (nI fi), .ref ali, .ref ale, .ref ach, .ref ast, .ref atw, .ref ats, .int (nI tp), .int (nI th)]), (ase, zI G 16 (fun j => nI (Se j))), (ali, zI G 12 (fun j => nI (Li j)))] sz) (zQ (S := Unit) G (fun u => some (.int (nI (popS (drF Se nf) n / 2)))) (fun u => [(m0, zO 7 [.int (nI n), .ref av, .ref ab, .ref apl, .int (nI stt), .int (nI nf), .ref ase, .ref aco, .ref aen, .int (nI mem), .int (nI kd), .int (nI sl), .ref aor, .ref aba, .int (nI fi), .ref ali, .ref ale, .ref ach, .ref ast, .ref atw, .ref ats, .int (nI tp), .int (nI th)]), (ase, zI G 16 (fun j => nI (Se j))), (ali, zI G 12 (fun j => nI ((rowF Li (drF Se nf) n) j)))]) (va_A [(m0, zO 7 [.int (nI n), .ref av, .ref ab, .ref apl, .int (nI stt), .int (nI nf), .ref ase, .ref aco, .ref aen, .int (nI mem), .int (nI kd), .int (nI sl), .ref aor, .ref aba, .int (nI fi), .ref ali, .ref ale, .ref ach, .ref ast, .ref atw, .ref ats, .int (nI tp), .int (nI th)]), (ase, zI G 16 (fun j => nI (Se j))), (ali, zI G 12 (fun j => nI (Li j)))] sz) (fun u => True)) 0 0 (va_A [(m0, zO 7 [.int (nI n), .ref av, .ref ab, .ref apl, .int (nI stt), .int (nI nf), .ref ase, .ref aco, .ref aen, .int (nI mem), .int (nI kd), .int (nI sl), .ref aor, .ref aba, .int (nI fi), .ref ali, .ref ale, .ref ach, .ref ast, .ref atw, .ref ats, .int (nI tp), .int (nI th)]), (ase, zI G 16 (fun j => nI (Se j))), (ali, zI G 12 (fun j => nI (Li j)))] sz) := by
  refine z_metWi (by decide) (Nat.le_of_ble_eq_true rfl) (fun p e s m args below meth c ls A Q Sf hnm w hl hret => ?_)
  obtain ⟨H, hH⟩ : ∃ H, H = s.heap := ⟨_, rfl⟩
  obtain ⟨locs, hlo⟩ : ∃ L : List Loc, L = [] := ⟨_, rfl⟩
  rw [← hH, ← hlo] at w
  rw [← hH, ← hlo]
  clear hH hlo
  have Sf : CallFix p m c cMo_pairs 3 s args zT RMo := Sf
  have hx := Sf.1
  have hb := Sf.2.1
  have hown := Sf.2.2.2.1
  have hts := Sf.2.2.2.2
  have hl : lv_has ls 3 [(0, .ref m0)] := hl
  refine lv_aload_n hx hb dMo_pairs_0 rfl (lv_at hl 0 rfl) ?_
  refine z_wV (wr := []) (As := []) (rest := []) Sf (c_Mo_draw l G m0 av ab apl ase aco aen aor aba ali ale ach ast atw ats n stt nf mem kd sl fi tp th Se Li (by first | assumption | omega) (by first | assumption | omega) (by first | assumption | omega) H.size) mv_Mo_130 ⟨rfl, rfl⟩ ⟨Nat.le_of_ble_eq_true rfl, Nat.le_of_ble_eq_true rfl⟩ w [0, 1, 2] [] rfl rfl (by decide) (by decide) (by decide) 0 rfl rfl rfl rfl hl.1 rfl (Nat.le_of_ble_eq_true rfl) dMo_pairs_1 ⟨Nat.le_of_ble_eq_true rfl, Nat.le_of_ble_eq_true rfl⟩ (fun u1 H locs hu1 w => ?_)
  have w := w.eq (ws' := [(m0, zO 7 [.int (nI n), .ref av, .ref ab, .ref apl, .int (nI stt), .int (nI nf), .ref ase, .ref aco, .ref aen, .int (nI mem), .int (nI kd), .int (nI sl), .ref aor, .ref aba, .int (nI fi), .ref ali, .ref ale, .ref ach, .ref ast, .ref atw, .ref ats, .int (nI tp), .int (nI th)]), (ase, zI G 16 (fun j => nI (Se j))), (ali, zI G 12 (fun j => nI ((rowF Li (drF Se nf) n) j)))]) rfl
  refine W.eq (g2 := F0 m 4 ls []) rfl ?_
  refine lv_iconst (v := (nI 0)) hx hb dMo_pairs_4 (by decide) ?_
  refine lv_istore_n (lv' := [(1, .int (nI 0)), (0, .ref m0)]) hx hb dMo_pairs_5 rfl hl (by decide) rfl (fun ls hl => ?_)
  refine lv_iconst (v := (nI 0)) hx hb dMo_pairs_6 (by decide) ?_
  refine lv_istore_n (lv' := [(2, .int (nI 0)), (1, .int (nI 0)), (0, .ref m0)]) hx hb dMo_pairs_7 rfl hl (by decide) rfl (fun ls hl => ?_)
  have L8 : ∀ (fu8 : Nat) (i t : Nat), (i ≤ n) → (t = popS (rowF Li (drF Se nf) n) i) → (t ≤ 12 * i) → (n - i) < fu8 → ∀ (H : Heap) (locs : List Loc), zw G A s [(m0, zO 7 [.int (nI n), .ref av, .ref ab, .ref apl, .int (nI stt), .int (nI nf), .ref ase, .ref aco, .ref aen, .int (nI mem), .int (nI kd), .int (nI sl), .ref aor, .ref aba, .int (nI fi), .ref ali, .ref ale, .ref ach, .ref ast, .ref atw, .ref ats, .int (nI tp), .int (nI th)]), (ase, zI G 16 (fun j => nI (Se j))), (ali, zI G 12 (fun j => nI ((rowF Li (drF Se nf) n) j)))] H locs → ∀ (ls : Array Slot), lv_has ls 3 [(2, .int (nI i)), (1, .int (nI t)), (0, .ref m0)] → W p l e rm_Mo_pairs s m args below meth c H locs 0 0 Q (F0 m 8 ls []) := by
    intro fu8
    induction fu8 with
    | zero =>
      intro i t hi ht ht2 hm8
      exact absurd hm8 (Nat.not_lt_zero _)
    | succ fu8 ih8 =>
      intro i t hi ht ht2 hm8 H locs w ls hl
      have hb4 : rowF Li (drF Se nf) n i < 4096 := by
        unfold rowF
        split
        · exact drF_lt hSe nf i
        · exact hLi i
      have hp := popc_le _ hb4
      refine lv_iload_n hx hb dMo_pairs_8 rfl (lv_at hl 0 rfl) ?_
      refine lv_aload_n hx hb dMo_pairs_9 rfl (lv_at hl 2 rfl) ?_
      refine gf_Mo_68 Sf w.1 0 rfl rfl dMo_pairs_10 ?_
      refine z_icmpge (tgt := 34) hx hb (by omega) (by omega) dMo_pairs_13 (by decide) (fun c13 => ?_) (fun c13 => ?_)
      · skip
        refine lv_iload_n hx hb dMo_pairs_34 rfl (lv_at hl 1 rfl) ?_
        refine lv_iconst (v := (nI 2)) hx hb dMo_pairs_35 (by decide) ?_
        refine z_divN hx hb (by omega) (by omega) (by omega) dMo_pairs_36 ?_
        exact hret _ _ _ _ () _ _ w (rfl) (trivial) dMo_pairs_37 (by rw [ht, show i = n by omega, popS_congr n (fun j hj => rowF_lt hj)])
      · skip
        refine lv_iload_n hx hb dMo_pairs_16 rfl (lv_at hl 1 rfl) ?_
        refine lv_aload_n hx hb dMo_pairs_17 rfl (lv_at hl 2 rfl) ?_
        refine gf_Mo_34 Sf w.1 0 rfl rfl dMo_pairs_18 ?_
        refine lv_iload_n hx hb dMo_pairs_21 rfl (lv_at hl 0 rfl) ?_
        refine z_iald hx hb w.1 2 (k := i) rfl (by omega) (by omega) dMo_pairs_22 ?_
        refine z_rS (As := [.int (nI ((rowF Li (drF Se nf) n) i))]) (rest := [.int (nI t)]) Sf (c_Mo_many l G ((rowF Li (drF Se nf) n) i) hb4) mv_Mo_86 ⟨rfl, rfl⟩ ⟨Nat.le_of_ble_eq_true rfl, Nat.le_of_ble_eq_true rfl⟩ w.1 [] rfl rfl hl.1 rfl (Nat.le_of_ble_eq_true rfl) dMo_pairs_23 ⟨Nat.le_of_ble_eq_true rfl, Nat.le_of_ble_eq_true rfl⟩ ?_
        refine z_addN hx hb dMo_pairs_26 ?_
        refine lv_istore_n (lv' := [(1, .int (nI (t + (popc ((rowF Li (drF Se nf) n) i))))), (2, .int (nI i)), (0, .ref m0)]) hx hb dMo_pairs_27 rfl hl (by decide) rfl (fun ls hl => ?_)
        refine z_iinc (d := 1) (lv' := [(2, .int (nI (i + 1))), (1, .int (nI (t + (popc ((rowF Li (drF Se nf) n) i))))), (0, .ref m0)]) hx hb dMo_pairs_28 hl (k := 1) rfl (by decide) (by decide) rfl (fun ls hl => ?_)
        refine lv_goto (tgt := 8) hx hb dMo_pairs_31 (by decide) ?_
        refine ih8 (i + 1) (t + (popc ((rowF Li (drF Se nf) n) i))) ?_ ?_ ?_ ?_ _ _ w ls (lv_sub hl [0, 1, 2] rfl)
        · omega
        · rw [ht]; rfl
        · omega
        · omega
  refine L8 ((n - 0) + 1) 0 0 ?_ ?_ ?_ ?_ _ _ w ls (lv_sub hl [0, 1, 2] rfl)
  · omega
  · rfl
  · omega
  · exact Nat.lt_succ_self _

def rm_Mo_lay : Room := { frames := 0, cells := 0, slots := 0, locals := 0 }
set_option maxHeartbeats 4000000 in
set_option maxRecDepth 100000 in
theorem c_Mo_lay (l : Launch) (G : zG) (m0 av ab apl ase aco aen aor aba ali ale ach ast atw ats : Nat) (n stt nf mem kd sl fi tp th : Nat) (V Sx : Nat → Nat) (x : Nat) (hn : n ≤ 12) (hV0 : ∀ j, j < n → 0 < V j ∧ V j ≤ 4) (hx0 : x < 2 ^ 31) (sz : Nat) : Met l yMo_lay (.code yMo_lay cMo_lay 4 none :: zT) rm_Mo_lay (zPw G [.ref m0, .int (nI x)] [(m0, zO 7 [.int (nI n), .ref av, .ref ab, .ref apl, .int (nI stt), .int (nI nf), .ref ase, .ref aco, .ref aen, .int (nI mem), .int (nI kd), .int (nI sl), .ref aor, .ref aba, .int (nI fi), .ref ali, .ref ale, .ref ach, .ref ast, .ref atw, .ref ats, .int (nI tp), .int (nI th)]), (av, zI G 12 (fun j => nI (V j))), (ast, zI G 12 (fun j => nI (Sx j)))] sz) (zQ (S := Unit) G (fun u => none) (fun u => [(m0, zO 7 [.int (nI n), .ref av, .ref ab, .ref apl, .int (nI stt), .int (nI nf), .ref ase, .ref aco, .ref aen, .int (nI mem), .int (nI kd), .int (nI sl), .ref aor, .ref aba, .int (nI fi), .ref ali, .ref ale, .ref ach, .ref ast, .ref atw, .ref ats, .int (nI tp), .int (nI th)]), (av, zI G 12 (fun j => nI (V j))), (ast, zI G 12 (fun j => nI ((rowF Sx (valF V n x) n) j)))]) (va_A [(m0, zO 7 [.int (nI n), .ref av, .ref ab, .ref apl, .int (nI stt), .int (nI nf), .ref ase, .ref aco, .ref aen, .int (nI mem), .int (nI kd), .int (nI sl), .ref aor, .ref aba, .int (nI fi), .ref ali, .ref ale, .ref ach, .ref ast, .ref atw, .ref ats, .int (nI tp), .int (nI th)]), (av, zI G 12 (fun j => nI (V j))), (ast, zI G 12 (fun j => nI (Sx j)))] sz) (fun u => True)) 0 0 (va_A [(m0, zO 7 [.int (nI n), .ref av, .ref ab, .ref apl, .int (nI stt), .int (nI nf), .ref ase, .ref aco, .ref aen, .int (nI mem), .int (nI kd), .int (nI sl), .ref aor, .ref aba, .int (nI fi), .ref ali, .ref ale, .ref ach, .ref ast, .ref atw, .ref ats, .int (nI tp), .int (nI th)]), (av, zI G 12 (fun j => nI (V j))), (ast, zI G 12 (fun j => nI (Sx j)))] sz) := by
  refine z_metWv (by decide) (Nat.le_of_ble_eq_true rfl) (fun p e s m args below meth c ls A Q Sf hnm w hl hret => ?_)
  obtain ⟨H, hH⟩ : ∃ H, H = s.heap := ⟨_, rfl⟩
  obtain ⟨locs, hlo⟩ : ∃ L : List Loc, L = [] := ⟨_, rfl⟩
  rw [← hH, ← hlo] at w
  rw [← hH, ← hlo]
  clear hH hlo
  have Sf : CallFix p m c cMo_lay 4 s args zT RMo := Sf
  have hx := Sf.1
  have hb := Sf.2.1
  have hown := Sf.2.2.2.1
  have hts := Sf.2.2.2.2
  have hl : lv_has ls 4 [(0, .ref m0), (1, .int (nI x))] := hl
  refine lv_iload_n hx hb dMo_lay_0 rfl (lv_at hl 1 rfl) ?_
  refine lv_istore_n (lv' := [(2, .int (nI x)), (0, .ref m0), (1, .int (nI x))]) hx hb dMo_lay_1 rfl hl (by decide) rfl (fun ls hl => ?_)
  refine lv_aload_n hx hb dMo_lay_2 rfl (lv_at hl 1 rfl) ?_
  refine gf_Mo_68 Sf w.1 0 rfl rfl dMo_lay_3 ?_
  refine lv_iconst (v := (nI 1)) hx hb dMo_lay_6 (by decide) ?_
  refine z_subM hx hb dMo_lay_7 ?_
  refine lv_istore_n (lv' := [(3, .int (mI n)), (2, .int (nI x)), (0, .ref m0), (1, .int (nI x))]) hx hb dMo_lay_8 rfl hl (by decide) rfl (fun ls hl => ?_)
  have L9 : ∀ (fu9 : Nat) (t y : Nat) (F : Nat → Nat), (t ≤ n) → (y = restF V n x (n - t)) → (F = rowD Sx (valF V n x) n t) → (t) < fu9 → ∀ (H : Heap) (locs : List Loc), zw G A s [(m0, zO 7 [.int (nI n), .ref av, .ref ab, .ref apl, .int (nI stt), .int (nI nf), .ref ase, .ref aco, .ref aen, .int (nI mem), .int (nI kd), .int (nI sl), .ref aor, .ref aba, .int (nI fi), .ref ali, .ref ale, .ref ach, .ref ast, .ref atw, .ref ats, .int (nI tp), .int (nI th)]), (av, zI G 12 (fun j => nI (V j))), (ast, zI G 12 (fun j => nI (F j)))] H locs → ∀ (ls : Array Slot), lv_has ls 4 [(3, .int (mI t)), (2, .int (nI y)), (0, .ref m0), (1, .int (nI x))] → W p l e rm_Mo_lay s m args below meth c H locs 0 0 Q (F0 m 9 ls []) := by
    intro fu9
    induction fu9 with
    | zero =>
      intro t y F ht hy hF hm9
      exact absurd hm9 (Nat.not_lt_zero _)
    | succ fu9 ih9 =>
      intro t y F ht hy hF hm9 H locs w ls hl
      refine lv_iload_n hx hb dMo_lay_9 rfl (lv_at hl 0 rfl) ?_
      refine z_ifltM (tgt := 42) hx hb (by omega) dMo_lay_10 (by decide) (fun c10 => ?_) (fun c10 => ?_)
      · skip
        exact hret _ _ _ _ () _ w (by rw [hF, c10, rowD_0]) (trivial) dMo_lay_42 rfl
      · skip
        obtain ⟨t2, rfl⟩ : ∃ t2, t = t2 + 1 := ⟨t - 1, by omega⟩
        have hy2 : y < 2 ^ 31 := Nat.lt_of_le_of_lt (hy ▸ restF_le _) hx0
        have hv := hV0 t2 (by omega)
        have hl : lv_has ls 4 [(3, .int (nI t2)), (2, .int (nI y)), (0, .ref m0), (1, .int (nI x))] := by simpa only [mI_s] using hl
        refine lv_aload_n hx hb dMo_lay_13 rfl (lv_at hl 2 rfl) ?_
        refine gf_Mo_44 Sf w.1 0 rfl rfl dMo_lay_14 ?_
        refine lv_iload_n hx hb dMo_lay_17 rfl (lv_at hl 0 rfl) ?_
        refine lv_iload_n hx hb dMo_lay_18 rfl (lv_at hl 1 rfl) ?_
        refine lv_aload_n hx hb dMo_lay_19 rfl (lv_at hl 2 rfl) ?_
        refine gf_Mo_7 Sf w.1 0 rfl rfl dMo_lay_20 ?_
        refine lv_iload_n hx hb dMo_lay_23 rfl (lv_at hl 0 rfl) ?_
        refine z_iald hx hb w.1 1 (k := t2) rfl (by omega) (by omega) dMo_lay_24 ?_
        refine z_remN hx hb hy2 hv.1 (by omega) dMo_lay_25 ?_
        refine z_iastN hx hb w 2 (k := t2) rfl (by omega) (by omega) (ws' := [(m0, zO 7 [.int (nI n), .ref av, .ref ab, .ref apl, .int (nI stt), .int (nI nf), .ref ase, .ref aco, .ref aen, .int (nI mem), .int (nI kd), .int (nI sl), .ref aor, .ref aba, .int (nI fi), .ref ali, .ref ale, .ref ach, .ref ast, .ref atw, .ref ats, .int (nI tp), .int (nI th)]), (av, zI G 12 (fun j => nI (V j))), (ast, zI G 12 (fun j => nI ((va_up F t2 (y % (V t2))) j)))]) rfl dMo_lay_26 (fun H locs w => ?_)
        refine lv_iload_n hx hb dMo_lay_27 rfl (lv_at hl 1 rfl) ?_
        refine lv_aload_n hx hb dMo_lay_28 rfl (lv_at hl 2 rfl) ?_
        refine gf_Mo_7 Sf w.1 0 rfl rfl dMo_lay_29 ?_
        refine lv_iload_n hx hb dMo_lay_32 rfl (lv_at hl 0 rfl) ?_
        refine z_iald hx hb w.1 1 (k := t2) rfl (by omega) (by omega) dMo_lay_33 ?_
        refine z_divN hx hb hy2 hv.1 (by omega) dMo_lay_34 ?_
        refine lv_istore_n (lv' := [(2, .int (nI (y / (V t2)))), (3, .int (nI t2)), (0, .ref m0), (1, .int (nI x))]) hx hb dMo_lay_35 rfl hl (by decide) rfl (fun ls hl => ?_)
        refine lv_iinc (v := (mI t2)) (lv' := [(3, .int (mI t2)), (2, .int (nI (y / (V t2)))), (0, .ref m0), (1, .int (nI x))]) hx hb dMo_lay_36 hl (k := 1) rfl (mI_dec t2) (by decide) rfl (fun ls hl => ?_)
        refine lv_goto (tgt := 9) hx hb dMo_lay_39 (by decide) ?_
        refine ih9 t2 (y / (V t2)) (va_up F t2 (y % (V t2))) ?_ ?_ ?_ ?_ _ _ w ls (lv_sub hl [0, 1, 2, 3] rfl)
        · omega
        · rw [hy]; exact restF_s (by omega)
        · rw [hF, ← rowD_s _ _ (show t2 < n by omega), valF_eq, hy]
        · omega
  refine L9 ((n) + 1) n x Sx ?_ ?_ ?_ ?_ _ _ w ls (lv_sub hl [0, 1, 2, 3] rfl)
  · omega
  · rw [Nat.sub_self]; rfl
  · exact (rowD_n _ _ _).symm
  · exact Nat.lt_succ_self _

def rm_Mo_numberOf : Room := { frames := 0, cells := 0, slots := 0, locals := 0 }
set_option maxHeartbeats 4000000 in
set_option maxRecDepth 100000 in
theorem c_Mo_numberOf (l : Launch) (G : zG) (m0 av ab apl ase aco aen aor aba ali ale ach ast atw ats : Nat) (n stt nf mem kd sl fi tp th : Nat) (V Sx : Nat → Nat) (S : Nat) (hn : n ≤ 12) (hS : S < 4096) : Met l yMo_numberOf (.code yMo_numberOf cMo_numberOf 5 (some .int) :: zT) rm_Mo_numberOf (zPr G [.ref m0, .int (nI S)] [(m0, zO 7 [.int (nI n), .ref av, .ref ab, .ref apl, .int (nI stt), .int (nI nf), .ref ase, .ref aco, .ref aen, .int (nI mem), .int (nI kd), .int (nI sl), .ref aor, .ref aba, .int (nI fi), .ref ali, .ref ale, .ref ach, .ref ast, .ref atw, .ref ats, .int (nI tp), .int (nI th)]), (av, zI G 12 (fun j => nI (V j))), (ast, zI G 12 (fun j => nI (Sx j)))]) (k2_QcV (.int (nI (nmF Sx V S n)))) 0 0 (fun _ => False) := by
  refine z_metRi (by decide) (Nat.le_of_ble_eq_true rfl) (fun p e s m args below meth c ls Q Sf r hl hret => ?_)
  have Sf : CallFix p m c cMo_numberOf 5 s args zT RMo := Sf
  have hx := Sf.1
  have hb := Sf.2.1
  have hown := Sf.2.2.2.1
  have hts := Sf.2.2.2.2
  have hl : lv_has ls 5 [(0, .ref m0), (1, .int (nI S))] := hl
  refine lv_iconst (v := (nI 0)) hx hb dMo_numberOf_0 (by decide) ?_
  refine lv_istore_n (lv' := [(2, .int (nI 0)), (0, .ref m0), (1, .int (nI S))]) hx hb dMo_numberOf_1 rfl hl (by decide) rfl (fun ls hl => ?_)
  refine lv_iconst (v := (nI 1)) hx hb dMo_numberOf_2 (by decide) ?_
  refine lv_istore_n (lv' := [(3, .int (nI 1)), (2, .int (nI 0)), (0, .ref m0), (1, .int (nI S))]) hx hb dMo_numberOf_3 rfl hl (by decide) rfl (fun ls hl => ?_)
  refine lv_iconst (v := (nI 0)) hx hb dMo_numberOf_4 (by decide) ?_
  refine lv_istore (lv' := [(4, .int (nI 0)), (3, .int (nI 1)), (2, .int (nI 0)), (0, .ref m0), (1, .int (nI S))]) hx hb dMo_numberOf_5 hl (by decide) rfl (fun ls hl => ?_)
  have L7 : ∀ (fu7 : Nat) (i a b : Nat), (i ≤ n) → (a = nmF Sx V S i) → (b = cellsF V S i) → (n - i) < fu7 → ∀ (ls : Array Slot), lv_has ls 5 [(4, .int (nI i)), (3, .int (nI b)), (2, .int (nI a)), (0, .ref m0), (1, .int (nI S))] → W p l e rm_Mo_numberOf s m args below meth c s.heap [] 0 0 Q (F0 m 7 ls []) := by
    intro fu7
    induction fu7 with
    | zero =>
      intro i a b hi ha hbb hm7
      exact absurd hm7 (Nat.not_lt_zero _)
    | succ fu7 ih7 =>
      intro i a b hi ha hbb hm7 ls hl
      refine lv_iload hx hb dMo_numberOf_7 (lv_at hl 0 rfl) ?_
      refine lv_aload_n hx hb dMo_numberOf_9 rfl (lv_at hl 3 rfl) ?_
      refine gf_Mo_68 Sf r 0 rfl rfl dMo_numberOf_10 ?_
      refine z_icmpge (tgt := 54) hx hb (by omega) (by omega) dMo_numberOf_13 (by decide) (fun c13 => ?_) (fun c13 => ?_)
      · skip
        refine lv_iload_n hx hb dMo_numberOf_54 rfl (lv_at hl 2 rfl) ?_
        exact hret _ _ _ dMo_numberOf_55 (by rw [ha, show i = n by omega])
      · skip
        refine lv_iload_n hx hb dMo_numberOf_16 rfl (lv_at hl 4 rfl) ?_
        refine lv_iload hx hb dMo_numberOf_17 (lv_at hl 0 rfl) ?_
        refine z_shrN hx hb (by omega) (by omega) dMo_numberOf_19 ?_
        refine lv_iconst (v := (nI 1)) hx hb dMo_numberOf_20 (by decide) ?_
        refine z_and1 hx hb dMo_numberOf_21 ?_
        refine lv_iconst (v := (nI 1)) hx hb dMo_numberOf_22 (by decide) ?_
        refine z_icmpneSB (tgt := 48) hx hb dMo_numberOf_23 (by decide) (fun c23 => ?_) (fun c23 => ?_)
        · skip
          refine z_iinc (d := 1) (lv' := [(4, .int (nI (i + 1))), (3, .int (nI b)), (2, .int (nI a)), (0, .ref m0), (1, .int (nI S))]) hx hb dMo_numberOf_48 hl (k := 0) rfl (by decide) (by decide) rfl (fun ls hl => ?_)
          refine lv_goto (tgt := 7) hx hb dMo_numberOf_51 (by decide) ?_
          refine ih7 (i + 1) _ _ ?_ ?_ ?_ ?_ ls (lv_sub hl [0, 1, 2, 3, 4] rfl)
          · omega
          · first | (rw [nmF_t c23, ha, hbb]) | (rw [nmF_f c23, ha])
          · first | (rw [cellsF_t c23, hbb]) | (rw [cellsF_f c23, hbb])
          · omega
        · skip
          refine lv_iload_n hx hb dMo_numberOf_26 rfl (lv_at hl 2 rfl) ?_
          refine lv_iload_n hx hb dMo_numberOf_27 rfl (lv_at hl 1 rfl) ?_
          refine lv_aload_n hx hb dMo_numberOf_28 rfl (lv_at hl 3 rfl) ?_
          refine gf_Mo_44 Sf r 0 rfl rfl dMo_numberOf_29 ?_
          refine lv_iload hx hb dMo_numberOf_32 (lv_at hl 0 rfl) ?_
          refine z_iald hx hb r 2 (k := i) rfl (by omega) (by omega) dMo_numberOf_34 ?_
          refine z_mulN hx hb dMo_numberOf_35 ?_
          refine z_addN hx hb dMo_numberOf_36 ?_
          refine lv_istore_n (lv' := [(2, .int (nI (a + (b * (Sx i))))), (4, .int (nI i)), (3, .int (nI b)), (0, .ref m0), (1, .int (nI S))]) hx hb dMo_numberOf_37 rfl hl (by decide) rfl (fun ls hl => ?_)
          refine lv_iload_n hx hb dMo_numberOf_38 rfl (lv_at hl 2 rfl) ?_
          refine lv_aload_n hx hb dMo_numberOf_39 rfl (lv_at hl 3 rfl) ?_
          refine gf_Mo_7 Sf r 0 rfl rfl dMo_numberOf_40 ?_
          refine lv_iload hx hb dMo_numberOf_43 (lv_at hl 1 rfl) ?_
          refine z_iald hx hb r 1 (k := i) rfl (by omega) (by omega) dMo_numberOf_45 ?_
          refine z_mulN hx hb dMo_numberOf_46 ?_
          refine lv_istore_n (lv' := [(3, .int (nI (b * (V i)))), (2, .int (nI (a + (b * (Sx i))))), (4, .int (nI i)), (0, .ref m0), (1, .int (nI S))]) hx hb dMo_numberOf_47 rfl hl (by decide) rfl (fun ls hl => ?_)
          refine z_iinc (d := 1) (lv' := [(4, .int (nI (i + 1))), (3, .int (nI (b * (V i)))), (2, .int (nI (a + (b * (Sx i))))), (0, .ref m0), (1, .int (nI S))]) hx hb dMo_numberOf_48 hl (k := 2) rfl (by decide) (by decide) rfl (fun ls hl => ?_)
          refine lv_goto (tgt := 7) hx hb dMo_numberOf_51 (by decide) ?_
          refine ih7 (i + 1) (a + (b * (Sx i))) (b * (V i)) ?_ ?_ ?_ ?_ ls (lv_sub hl [0, 1, 2, 3, 4] rfl)
          · omega
          · first | (rw [nmF_t c23, ha, hbb]) | (rw [nmF_f c23, ha])
          · first | (rw [cellsF_t c23, hbb]) | (rw [cellsF_f c23, hbb])
          · omega
  refine L7 ((n - 0) + 1) 0 0 1 ?_ ?_ ?_ ?_ ls (lv_sub hl [0, 1, 2, 3, 4] rfl)
  · omega
  · rfl
  · rfl
  · exact Nat.lt_succ_self _

def rm_Mo_divisor : Room := { frames := 0, cells := 0, slots := 0, locals := 0 }
set_option maxHeartbeats 4000000 in
set_option maxRecDepth 100000 in
theorem c_Mo_divisor (l : Launch) (G : zG) (a b : Nat) (ha : a < 2 ^ 63) (hb0 : b < 2 ^ 63) : Met l yMo_divisor (.code yMo_divisor cMo_divisor 10 (some .long) :: zT) rm_Mo_divisor (zPr G [.long (lN a), .long (lN b)] []) (k2_QcV (.long (lN (Nat.gcd a b)))) 0 0 (fun _ => False) := by
  refine z_metRl (by decide) (Nat.le_of_ble_eq_true rfl) (fun p e s m args below meth c ls Q Sf r hl hret => ?_)
  have Sf : CallFix p m c cMo_divisor 10 s args zT RMo := Sf
  have hx := Sf.1
  have hb := Sf.2.1
  have hown := Sf.2.2.2.1
  have hts := Sf.2.2.2.2
  have hl : lv_has ls 10 [(0, .long (lN a)), (2, .long (lN b))] := hl
  refine lv_lload_n hx hb dMo_divisor_0 rfl (lv_at hl 0 rfl) ?_
  refine lv_lstore (lv' := [(4, .long (lN a)), (0, .long (lN a)), (2, .long (lN b))]) hx hb dMo_divisor_1 hl (by decide) rfl (fun ls hl => ?_)
  refine lv_lload_n hx hb dMo_divisor_3 rfl (lv_at hl 2 rfl) ?_
  refine lv_lstore (lv' := [(6, .long (lN b)), (4, .long (lN a)), (0, .long (lN a)), (2, .long (lN b))]) hx hb dMo_divisor_4 hl (by decide) rfl (fun ls hl => ?_)
  have L6 : ∀ (fu6 : Nat) (x y : Nat), (x < 2 ^ 63) → (y < 2 ^ 63) → (Nat.gcd x y = Nat.gcd a b) → (y) < fu6 → ∀ (ls : Array Slot), lv_has ls 10 [(6, .long (lN y)), (4, .long (lN x)), (0, .long (lN a)), (2, .long (lN b))] → W p l e rm_Mo_divisor s m args below meth c s.heap [] 0 0 Q (F0 m 6 ls []) := by
    intro fu6
    induction fu6 with
    | zero =>
      intro x y hx0 hy hg hm6
      exact absurd hm6 (Nat.not_lt_zero _)
    | succ fu6 ih6 =>
      intro x y hx0 hy hg hm6 ls hl
      refine lv_lload hx hb dMo_divisor_6 (lv_at hl 0 rfl) ?_
      refine lv_lconst (v := lN 0) hx hb dMo_divisor_8 (by decide) ?_
      refine W.lcmp hx hb dMo_divisor_9 ?_
      refine z_lceqN (tgt := 31) hx hb hy (by decide) dMo_divisor_10 (by decide) (fun c10 => ?_) (fun c10 => ?_)
      · skip
        refine lv_lload hx hb dMo_divisor_31 (lv_at hl 1 rfl) ?_
        exact hret _ _ _ dMo_divisor_33 (by rw [← hg, c10, Nat.gcd_zero_right])
      · skip
        refine lv_lload hx hb dMo_divisor_13 (lv_at hl 1 rfl) ?_
        refine lv_lload hx hb dMo_divisor_15 (lv_at hl 0 rfl) ?_
        refine z_lremN hx hb hx0 (Nat.pos_of_ne_zero c10) hy dMo_divisor_17 ?_
        refine lv_lstore (lv' := [(8, .long (lN (x % y))), (6, .long (lN y)), (4, .long (lN x)), (0, .long (lN a)), (2, .long (lN b))]) hx hb dMo_divisor_18 hl (by decide) rfl (fun ls hl => ?_)
        refine lv_lload hx hb dMo_divisor_20 (lv_at hl 1 rfl) ?_
        refine lv_lstore (lv' := [(4, .long (lN y)), (8, .long (lN (x % y))), (6, .long (lN y)), (0, .long (lN a)), (2, .long (lN b))]) hx hb dMo_divisor_22 hl (by decide) rfl (fun ls hl => ?_)
        refine lv_lload hx hb dMo_divisor_24 (lv_at hl 1 rfl) ?_
        refine lv_lstore (lv' := [(6, .long (lN (x % y))), (4, .long (lN y)), (8, .long (lN (x % y))), (0, .long (lN a)), (2, .long (lN b))]) hx hb dMo_divisor_26 hl (by decide) rfl (fun ls hl => ?_)
        refine lv_goto (tgt := 6) hx hb dMo_divisor_28 (by decide) ?_
        refine ih6 y (x % y) ?_ ?_ ?_ ?_ ls (lv_sub hl [0, 1, 3, 4] rfl)
        · exact hy
        · exact Nat.lt_trans (Nat.mod_lt _ (Nat.pos_of_ne_zero c10)) hy
        · rw [← hg, Nat.gcd_comm x y, Nat.gcd_rec y x, Nat.gcd_comm]
        · have := Nat.mod_lt x (Nat.pos_of_ne_zero c10)
          omega
  refine L6 ((b) + 1) a b ?_ ?_ ?_ ?_ ls (lv_sub hl [0, 1, 2, 3] rfl)
  · exact ha
  · exact hb0
  · rfl
  · exact Nat.lt_succ_self _

def rm_Mo_pick : Room := { frames := 1, cells := 0, slots := 0, locals := 50 }
set_option maxHeartbeats 4000000 in
set_option maxRecDepth 100000 in
theorem c_Mo_pick (l : Launch) (G : zG) (m0 av ab apl ase aco aen aor aba ali ale ach ast atw ats : Nat) (n stt nf mem kd sl fi tp th : Nat) (V Li : Nat → Nat) (how o : Nat) (hn : n ≤ 12) (hV : ∀ j, V j ≤ 4) (hLi : ∀ i, Li i < 4096) (hho : how < 10) (ho : o < 4096) : Met l yMo_pick (.code yMo_pick cMo_pick 7 (some .int) :: zT) rm_Mo_pick (zPr G [.ref m0, .int (nI how), .int (nI o)] [(m0, zO 7 [.int (nI n), .ref av, .ref ab, .ref apl, .int (nI stt), .int (nI nf), .ref ase, .ref aco, .ref aen, .int (nI mem), .int (nI kd), .int (nI sl), .ref aor, .ref aba, .int (nI fi), .ref ali, .ref ale, .ref ach, .ref ast, .ref atw, .ref ats, .int (nI tp), .int (nI th)]), (av, zI G 12 (fun j => nI (V j))), (ali, zI G 12 (fun j => nI (Li j)))]) (k2_QcV (.int (mI ((pkF (pkC V Li n how) o n).1)))) 0 0 (fun _ => False) := by
  refine z_metRi (by decide) (Nat.le_of_ble_eq_true rfl) (fun p e s m args below meth c ls Q Sf r hl hret => ?_)
  have Sf : CallFix p m c cMo_pick 7 s args zT RMo := Sf
  have hx := Sf.1
  have hb := Sf.2.1
  have hown := Sf.2.2.2.1
  have hts := Sf.2.2.2.2
  have hl : lv_has ls 7 [(0, .ref m0), (1, .int (nI how)), (2, .int (nI o))] := hl
  refine lv_iconst (v := (mI 0)) hx hb dMo_pick_0 (by decide) ?_
  refine lv_istore_n (lv' := [(3, .int (mI 0)), (0, .ref m0), (1, .int (nI how)), (2, .int (nI o))]) hx hb dMo_pick_1 rfl hl (by decide) rfl (fun ls hl => ?_)
  refine lv_iconst (v := (nI 0)) hx hb dMo_pick_2 (by decide) ?_
  refine lv_istore (lv' := [(4, .int (nI 0)), (3, .int (mI 0)), (0, .ref m0), (1, .int (nI how)), (2, .int (nI o))]) hx hb dMo_pick_3 hl (by decide) rfl (fun ls hl => ?_)
  refine lv_iconst (v := (nI 0)) hx hb dMo_pick_5 (by decide) ?_
  refine lv_istore (lv' := [(5, .int (nI 0)), (4, .int (nI 0)), (3, .int (mI 0)), (0, .ref m0), (1, .int (nI how)), (2, .int (nI o))]) hx hb dMo_pick_6 hl (by decide) rfl (fun ls hl => ?_)
  have L8 : ∀ (fu8 : Nat) (i b q : Nat), (i ≤ n) → ((b, q) = pkF (pkC V Li n how) o i) → (b ≤ 12) → (q ≤ 16777216) → (n - i) < fu8 → ∀ (ls : Array Slot), lv_has ls 7 [(5, .int (nI i)), (4, .int (nI q)), (3, .int (mI b)), (0, .ref m0), (1, .int (nI how)), (2, .int (nI o))] → W p l e rm_Mo_pick s m args below meth c s.heap [] 0 0 Q (F0 m 8 ls []) := by
    intro fu8
    induction fu8 with
    | zero =>
      intro i b q hi hbb hbn hq hm8
      exact absurd hm8 (Nat.not_lt_zero _)
    | succ fu8 ih8 =>
      intro i b q hi hbb hbn hq hm8 ls hl
      refine lv_iload hx hb dMo_pick_8 (lv_at hl 0 rfl) ?_
      refine lv_aload_n hx hb dMo_pick_10 rfl (lv_at hl 3 rfl) ?_
      refine gf_Mo_68 Sf r 0 rfl rfl dMo_pick_11 ?_
      refine z_icmpge (tgt := 101) hx hb (by omega) (by omega) dMo_pick_14 (by decide) (fun c14 => ?_) (fun c14 => ?_)
      · skip
        refine lv_iload_n hx hb dMo_pick_101 rfl (lv_at hl 2 rfl) ?_
        exact hret _ _ _ dMo_pick_102 (by obtain rfl : i = n := (by omega); rw [← hbb])
      · skip
        refine lv_iload_n hx hb dMo_pick_17 rfl (lv_at hl 5 rfl) ?_
        refine lv_iload hx hb dMo_pick_18 (lv_at hl 0 rfl) ?_
        refine z_shrN hx hb (by omega) (by omega) dMo_pick_20 ?_
        refine lv_iconst (v := (nI 1)) hx hb dMo_pick_21 (by decide) ?_
        refine z_and1 hx hb dMo_pick_22 ?_
        refine z_ifneSB (tgt := 95) hx hb dMo_pick_23 (by decide) (fun c23 => ?_) (fun c23 => ?_)
        · skip
          refine z_iinc (d := 1) (lv' := [(5, .int (nI (i + 1))), (4, .int (nI q)), (3, .int (mI b)), (0, .ref m0), (1, .int (nI how)), (2, .int (nI o))]) hx hb dMo_pick_95 hl (k := 0) rfl (by decide) (by decide) rfl (fun ls hl => ?_)
          refine lv_goto (tgt := 8) hx hb dMo_pick_98 (by decide) ?_
          refine ih8 (i + 1) _ _ ?_ ?_ ?_ ?_ ?_ ls (lv_sub hl [0, 1, 2, 3, 4, 5] rfl)
          · omega
          · first | (rw [pkF_o c23, ← hbb]; done) | (rw [pkF_t c23 (by rw [← hbb]; first | exact Or.inl c78 | exact Or.inr (by rw [hco]; exact c85)), hco]; done) | (rw [pkF_f c23 (by rw [← hbb, hco]; rintro (h | h); exact c78 h; exact absurd h (by omega)), ← hbb])
          · omega
          · omega
          · omega
        · skip
          have L74 : ∀ (cst : Nat), (pkC V Li n how i = cst) → (cst ≤ 16777216) → ∀ (ls : Array Slot), lv_has ls 7 [(5, .int (nI i)), (4, .int (nI q)), (3, .int (mI b)), (0, .ref m0), (1, .int (nI how)), (2, .int (nI o))] → W p l e rm_Mo_pick s m args below meth c s.heap [] 0 0 Q (F0 m 74 ls [.int (nI cst)]) := by
            intro cst hco hcb ls hl
            refine lv_istore (lv' := [(6, .int (nI cst)), (5, .int (nI i)), (4, .int (nI q)), (3, .int (mI b)), (0, .ref m0), (1, .int (nI how)), (2, .int (nI o))]) hx hb dMo_pick_74 hl (by decide) rfl (fun ls hl => ?_)
            refine lv_iload_n hx hb dMo_pick_76 rfl (lv_at hl 3 rfl) ?_
            refine lv_iconst (v := (mI 0)) hx hb dMo_pick_77 (by decide) ?_
            refine z_icmpeqMM (tgt := 88) hx hb (by omega) (by omega) dMo_pick_78 (by decide) (fun c78 => ?_) (fun c78 => ?_)
            · skip
              refine lv_iload hx hb dMo_pick_88 (lv_at hl 1 rfl) ?_
              refine lv_istore_n (lv' := [(3, .int (nI i)), (6, .int (nI cst)), (5, .int (nI i)), (4, .int (nI q)), (0, .ref m0), (1, .int (nI how)), (2, .int (nI o))]) hx hb dMo_pick_90 rfl hl (by decide) rfl (fun ls hl => ?_)
              refine lv_iload hx hb dMo_pick_91 (lv_at hl 1 rfl) ?_
              refine lv_istore (lv' := [(4, .int (nI cst)), (3, .int (nI i)), (6, .int (nI cst)), (5, .int (nI i)), (0, .ref m0), (1, .int (nI how)), (2, .int (nI o))]) hx hb dMo_pick_93 hl (by decide) rfl (fun ls hl => ?_)
              refine z_iinc (d := 1) (lv' := [(5, .int (nI (i + 1))), (4, .int (nI cst)), (3, .int (nI i)), (6, .int (nI cst)), (0, .ref m0), (1, .int (nI how)), (2, .int (nI o))]) hx hb dMo_pick_95 hl (k := 3) rfl (by decide) (by decide) rfl (fun ls hl => ?_)
              refine lv_goto (tgt := 8) hx hb dMo_pick_98 (by decide) ?_
              have hl : lv_has ls 7 [(5, .int (nI (i + 1))), (4, .int (nI cst)), (3, .int (mI (i + 1))), (6, .int (nI cst)), (0, .ref m0), (1, .int (nI how)), (2, .int (nI o))] := by simpa only [mI_s] using hl
              refine ih8 (i + 1) (i + 1) cst ?_ ?_ ?_ ?_ ?_ ls (lv_sub hl [0, 1, 2, 4, 5, 6] rfl)
              · omega
              · first | (rw [pkF_o c23, ← hbb]; done) | (rw [pkF_t c23 (by rw [← hbb]; first | exact Or.inl c78 | exact Or.inr (by rw [hco]; exact c85)), hco]; done) | (rw [pkF_f c23 (by rw [← hbb, hco]; rintro (h | h); exact c78 h; exact absurd h (by omega)), ← hbb])
              · omega
              · omega
              · omega
            · skip
              refine lv_iload hx hb dMo_pick_81 (lv_at hl 0 rfl) ?_
              refine lv_iload hx hb dMo_pick_83 (lv_at hl 2 rfl) ?_
              refine z_icmpge (tgt := 95) hx hb (by omega) (by omega) dMo_pick_85 (by decide) (fun c85 => ?_) (fun c85 => ?_)
              · skip
                refine z_iinc (d := 1) (lv' := [(5, .int (nI (i + 1))), (6, .int (nI cst)), (4, .int (nI q)), (3, .int (mI b)), (0, .ref m0), (1, .int (nI how)), (2, .int (nI o))]) hx hb dMo_pick_95 hl (k := 1) rfl (by decide) (by decide) rfl (fun ls hl => ?_)
                refine lv_goto (tgt := 8) hx hb dMo_pick_98 (by decide) ?_
                refine ih8 (i + 1) _ _ ?_ ?_ ?_ ?_ ?_ ls (lv_sub hl [0, 2, 3, 4, 5, 6] rfl)
                · omega
                · first | (rw [pkF_o c23, ← hbb]; done) | (rw [pkF_t c23 (by rw [← hbb]; first | exact Or.inl c78 | exact Or.inr (by rw [hco]; exact c85)), hco]; done) | (rw [pkF_f c23 (by rw [← hbb, hco]; rintro (h | h); exact c78 h; exact absurd h (by omega)), ← hbb])
                · omega
                · omega
                · omega
              · skip
                refine lv_iload hx hb dMo_pick_88 (lv_at hl 1 rfl) ?_
                refine lv_istore_n (lv' := [(3, .int (nI i)), (6, .int (nI cst)), (5, .int (nI i)), (4, .int (nI q)), (0, .ref m0), (1, .int (nI how)), (2, .int (nI o))]) hx hb dMo_pick_90 rfl hl (by decide) rfl (fun ls hl => ?_)
                refine lv_iload hx hb dMo_pick_91 (lv_at hl 1 rfl) ?_
                refine lv_istore (lv' := [(4, .int (nI cst)), (3, .int (nI i)), (6, .int (nI cst)), (5, .int (nI i)), (0, .ref m0), (1, .int (nI how)), (2, .int (nI o))]) hx hb dMo_pick_93 hl (by decide) rfl (fun ls hl => ?_)
                refine z_iinc (d := 1) (lv' := [(5, .int (nI (i + 1))), (4, .int (nI cst)), (3, .int (nI i)), (6, .int (nI cst)), (0, .ref m0), (1, .int (nI how)), (2, .int (nI o))]) hx hb dMo_pick_95 hl (k := 3) rfl (by decide) (by decide) rfl (fun ls hl => ?_)
                refine lv_goto (tgt := 8) hx hb dMo_pick_98 (by decide) ?_
                have hl : lv_has ls 7 [(5, .int (nI (i + 1))), (4, .int (nI cst)), (3, .int (mI (i + 1))), (6, .int (nI cst)), (0, .ref m0), (1, .int (nI how)), (2, .int (nI o))] := by simpa only [mI_s] using hl
                refine ih8 (i + 1) (i + 1) cst ?_ ?_ ?_ ?_ ?_ ls (lv_sub hl [0, 1, 2, 4, 5, 6] rfl)
                · omega
                · first | (rw [pkF_o c23, ← hbb]; done) | (rw [pkF_t c23 (by rw [← hbb]; first | exact Or.inl c78 | exact Or.inr (by rw [hco]; exact c85)), hco]; done) | (rw [pkF_f c23 (by rw [← hbb, hco]; rintro (h | h); exact c78 h; exact absurd h (by omega)), ← hbb])
                · omega
                · omega
                · omega
          refine lv_iload_n hx hb dMo_pick_26 rfl (lv_at hl 4 rfl) ?_
          refine lv_iconst (v := (nI 2)) hx hb dMo_pick_27 (by decide) ?_
          refine z_icmpne (tgt := 44) hx hb (by omega) (by omega) dMo_pick_28 (by decide) (fun c28 => ?_) (fun c28 => ?_)
          · skip
            refine lv_iload_n hx hb dMo_pick_44 rfl (lv_at hl 4 rfl) ?_
            refine lv_iconst (v := (nI 3)) hx hb dMo_pick_45 (by decide) ?_
            refine z_icmpne (tgt := 58) hx hb (by omega) (by omega) dMo_pick_46 (by decide) (fun c46 => ?_) (fun c46 => ?_)
            · skip
              refine lv_aload_n hx hb dMo_pick_58 rfl (lv_at hl 3 rfl) ?_
              refine lv_aload_n hx hb dMo_pick_59 rfl (lv_at hl 3 rfl) ?_
              refine gf_Mo_34 Sf r 0 rfl rfl dMo_pick_60 ?_
              refine lv_iload hx hb dMo_pick_63 (lv_at hl 0 rfl) ?_
              refine z_iald hx hb r 2 (k := i) rfl (by omega) (by omega) dMo_pick_65 ?_
              refine lv_iconst (v := (nI 1)) hx hb dMo_pick_66 (by decide) ?_
              refine lv_iload hx hb dMo_pick_67 (lv_at hl 0 rfl) ?_
              refine z_shl1 hx hb (by omega) dMo_pick_69 ?_
              refine z_orN hx hb dMo_pick_70 ?_
              refine z_rV (As := [.int (nI ((Li i) ||| (2 ^ i)))]) (rest := []) Sf (c_Mo_cells l G m0 av ab apl ase aco aen aor aba ali ale ach ast atw ats n stt nf mem kd sl fi tp th V ((Li i) ||| (2 ^ i)) (by first | assumption | omega) (or_lt (hLi i) (pw_lt (by omega)))) mv_Mo_97 ⟨rfl, rfl⟩ ⟨Nat.le_of_ble_eq_true rfl, Nat.le_of_ble_eq_true rfl⟩ r [0, 1] rfl 0 rfl rfl rfl rfl hl.1 rfl (Nat.le_of_ble_eq_true rfl) dMo_pick_71 ⟨Nat.le_of_ble_eq_true rfl, Nat.le_of_ble_eq_true rfl⟩ ?_
              refine L74 (cellsF V ((Li i) ||| (2 ^ i)) n) ?_ ?_ ls (lv_sub hl [0, 1, 2, 3, 4, 5] rfl)
              · unfold pkC; first | (rw [if_pos c28]; done) | (rw [if_neg c28, if_pos c46]; done) | (rw [if_neg c28, if_neg c46])
              · first | exact Nat.le_trans (popc_le _ (hLi i)) (by decide) | exact Nat.le_trans (filF_le n) (Nat.le_trans (Nat.mul_le_mul hn hn) (by decide)) | exact cellsF_b hV _ hn
            · skip
              refine lv_aload_n hx hb dMo_pick_49 rfl (lv_at hl 3 rfl) ?_
              refine lv_iload hx hb dMo_pick_50 (lv_at hl 0 rfl) ?_
              refine z_rV (As := [.int (nI i)]) (rest := []) Sf (c_Mo_fill l G m0 av ab apl ase aco aen aor aba ali ale ach ast atw ats n stt nf mem kd sl fi tp th Li i (by first | assumption | omega) (by omega) (by first | assumption | omega)) mv_Mo_116 ⟨rfl, rfl⟩ ⟨Nat.le_of_ble_eq_true rfl, Nat.le_of_ble_eq_true rfl⟩ r [0, 2] rfl 0 rfl rfl rfl rfl hl.1 rfl (Nat.le_of_ble_eq_true rfl) dMo_pick_52 ⟨Nat.le_of_ble_eq_true rfl, Nat.le_of_ble_eq_true rfl⟩ ?_
              refine lv_goto (tgt := 74) hx hb dMo_pick_55 (by decide) ?_
              refine L74 (filF Li i n) ?_ ?_ ls (lv_sub hl [0, 1, 2, 3, 4, 5] rfl)
              · unfold pkC; first | (rw [if_pos c28]; done) | (rw [if_neg c28, if_pos c46]; done) | (rw [if_neg c28, if_neg c46])
              · first | exact Nat.le_trans (popc_le _ (hLi i)) (by decide) | exact Nat.le_trans (filF_le n) (Nat.le_trans (Nat.mul_le_mul hn hn) (by decide)) | exact cellsF_b hV _ hn
          · skip
            refine lv_aload_n hx hb dMo_pick_31 rfl (lv_at hl 3 rfl) ?_
            refine gf_Mo_34 Sf r 0 rfl rfl dMo_pick_32 ?_
            refine lv_iload hx hb dMo_pick_35 (lv_at hl 0 rfl) ?_
            refine z_iald hx hb r 2 (k := i) rfl (by omega) (by omega) dMo_pick_37 ?_
            refine z_rS (As := [.int (nI (Li i))]) (rest := []) Sf (c_Mo_many l G (Li i) (hLi i)) mv_Mo_86 ⟨rfl, rfl⟩ ⟨Nat.le_of_ble_eq_true rfl, Nat.le_of_ble_eq_true rfl⟩ r [] rfl rfl hl.1 rfl (Nat.le_of_ble_eq_true rfl) dMo_pick_38 ⟨Nat.le_of_ble_eq_true rfl, Nat.le_of_ble_eq_true rfl⟩ ?_
            refine lv_goto (tgt := 74) hx hb dMo_pick_41 (by decide) ?_
            refine L74 (popc (Li i)) ?_ ?_ ls (lv_sub hl [0, 1, 2, 3, 4, 5] rfl)
            · unfold pkC; first | (rw [if_pos c28]; done) | (rw [if_neg c28, if_pos c46]; done) | (rw [if_neg c28, if_neg c46])
            · first | exact Nat.le_trans (popc_le _ (hLi i)) (by decide) | exact Nat.le_trans (filF_le n) (Nat.le_trans (Nat.mul_le_mul hn hn) (by decide)) | exact cellsF_b hV _ hn
  refine L8 ((n - 0) + 1) 0 0 0 ?_ ?_ ?_ ?_ ?_ ls (lv_sub hl [0, 1, 2, 3, 4, 5] rfl)
  · omega
  · rfl
  · omega
  · omega
  · exact Nat.lt_succ_self _
end
section
def rm_Mo_bagOf : Room := { frames := 0, cells := 0, slots := 0, locals := 0 }
set_option maxHeartbeats 4000000 in
set_option maxRecDepth 100000 in
theorem c_Mo_bagOf (l : Launch) (G : zG) (m0 av ab apl ase aco aen aor aba ali ale ach ast atw ats : Nat) (n stt nf mem kd sl fi tp th : Nat) (Li : Nat → Nat) (x o : Nat) (hn : n ≤ 12) (hx0 : x < n) (hLi : ∀ i, Li i < 4096) (ho : o < 4096) : Met l yMo_bagOf (.code yMo_bagOf cMo_bagOf 9 (some .int) :: zT) rm_Mo_bagOf (zPr G [.ref m0, .int (nI x), .int (nI o)] [(m0, zO 7 [.int (nI n), .ref av, .ref ab, .ref apl, .int (nI stt), .int (nI nf), .ref ase, .ref aco, .ref aen, .int (nI mem), .int (nI kd), .int (nI sl), .ref aor, .ref aba, .int (nI fi), .ref ali, .ref ale, .ref ach, .ref ast, .ref atw, .ref ats, .int (nI tp), .int (nI th)]), (ali, zI G 12 (fun j => nI (Li j)))]) (k2_QcV (.int (nI (mbF Li n x o)))) 0 0 (fun _ => False) := by
  refine z_metRi (by decide) (Nat.le_of_ble_eq_true rfl) (fun p e s m args below meth c ls Q Sf r hl hret => ?_)
  have Sf : CallFix p m c cMo_bagOf 9 s args zT RMo := Sf
  have hx := Sf.1
  have hb := Sf.2.1
  have hown := Sf.2.2.2.1
  have hts := Sf.2.2.2.2
  have hl : lv_has ls 9 [(0, .ref m0), (1, .int (nI x)), (2, .int (nI o))] := hl
  refine lv_iconst (v := (nI 1)) hx hb dMo_bagOf_0 (by decide) ?_
  refine lv_iload_n hx hb dMo_bagOf_1 rfl (lv_at hl 1 rfl) ?_
  refine z_shl1 hx hb (by omega) dMo_bagOf_2 ?_
  refine lv_istore_n (lv' := [(3, .int (nI (2 ^ x))), (0, .ref m0), (1, .int (nI x)), (2, .int (nI o))]) hx hb dMo_bagOf_3 rfl hl (by decide) rfl (fun ls hl => ?_)
  refine lv_iconst (v := (nI 1)) hx hb dMo_bagOf_4 (by decide) ?_
  refine lv_iload_n hx hb dMo_bagOf_5 rfl (lv_at hl 2 rfl) ?_
  refine z_shl1 hx hb (by omega) dMo_bagOf_6 ?_
  refine lv_istore (lv' := [(4, .int (nI (2 ^ x))), (3, .int (nI (2 ^ x))), (0, .ref m0), (1, .int (nI x)), (2, .int (nI o))]) hx hb dMo_bagOf_7 hl (by decide) rfl (fun ls hl => ?_)
  refine lv_iconst (v := (nI 1)) hx hb dMo_bagOf_9 (by decide) ?_
  refine lv_istore (lv' := [(5, .int (nI 1)), (4, .int (nI (2 ^ x))), (3, .int (nI (2 ^ x))), (0, .ref m0), (1, .int (nI x)), (2, .int (nI o))]) hx hb dMo_bagOf_10 hl (by decide) rfl (fun ls hl => ?_)
  have L12 : ∀ (fu12 : Nat) (k sn mo : Nat), (sn < 4096) → (mo ≤ 1) → (mo = 1 → 4096 ≤ k + sn) → (mo = 1 → bgX Li n x o k sn = bgX Li n x o 4096 (2 ^ x)) → (mo = 0 → sn = bgX Li n x o 4096 (2 ^ x)) → (4096 - sn + mo) < fu12 → ∀ (ls : Array Slot), lv_has ls 9 [(5, .int (nI mo)), (4, .int (nI sn)), (3, .int (nI (2 ^ x))), (0, .ref m0), (1, .int (nI x)), (2, .int (nI o))] → W p l e rm_Mo_bagOf s m args below meth c s.heap [] 0 0 Q (F0 m 12 ls []) := by
    intro fu12
    induction fu12 with
    | zero =>
      intro k sn mo hsn hmo hk h1 h0 hm12
      exact absurd hm12 (Nat.not_lt_zero _)
    | succ fu12 ih12 =>
      intro k sn mo hsn hmo hk h1 h0 hm12 ls hl
      refine lv_iload hx hb dMo_bagOf_12 (lv_at hl 0 rfl) ?_
      refine z_ifeqN (tgt := 116) hx hb (by omega) dMo_bagOf_14 (by decide) (fun c14 => ?_) (fun c14 => ?_)
      · skip
        refine lv_iload_n hx hb dMo_bagOf_116 rfl (lv_at hl 2 rfl) ?_
        refine lv_iload hx hb dMo_bagOf_117 (lv_at hl 1 rfl) ?_
        refine lv_iload_n hx hb dMo_bagOf_119 rfl (lv_at hl 5 rfl) ?_
        refine lv_iconst (v := (-1)) hx hb dMo_bagOf_120 (by decide) ?_
        refine lv_ixor hx hb dMo_bagOf_121 ?_
        refine z_andC hx hb dMo_bagOf_122 ?_
        refine z_orN hx hb dMo_bagOf_123 ?_
        refine lv_istore_n (lv' := [(3, .int (nI ((2 ^ x) ||| (sdf sn o)))), (5, .int (nI mo)), (4, .int (nI sn)), (0, .ref m0), (1, .int (nI x)), (2, .int (nI o))]) hx hb dMo_bagOf_124 rfl hl (by decide) rfl (fun ls hl => ?_)
        refine lv_iload_n hx hb dMo_bagOf_125 rfl (lv_at hl 0 rfl) ?_
        exact hret _ _ _ dMo_bagOf_126 (by rw [h0 c14]; rfl)
      · skip
        refine lv_iload hx hb dMo_bagOf_17 (lv_at hl 1 rfl) ?_
        refine lv_istore (lv' := [(6, .int (nI sn)), (5, .int (nI mo)), (4, .int (nI sn)), (3, .int (nI (2 ^ x))), (0, .ref m0), (1, .int (nI x)), (2, .int (nI o))]) hx hb dMo_bagOf_19 hl (by decide) rfl (fun ls hl => ?_)
        refine lv_iconst (v := (nI 0)) hx hb dMo_bagOf_21 (by decide) ?_
        refine lv_istore (lv' := [(7, .int (nI 0)), (6, .int (nI sn)), (5, .int (nI mo)), (4, .int (nI sn)), (3, .int (nI (2 ^ x))), (0, .ref m0), (1, .int (nI x)), (2, .int (nI o))]) hx hb dMo_bagOf_22 hl (by decide) rfl (fun ls hl => ?_)
        have L24 : ∀ (fu24 : Nat) (b nx : Nat), (b ≤ n) → (nx = bgN Li x o sn b) → (n - b) < fu24 → ∀ (ls : Array Slot), lv_has ls 9 [(7, .int (nI b)), (6, .int (nI nx)), (5, .int (nI mo)), (4, .int (nI sn)), (3, .int (nI (2 ^ x))), (0, .ref m0), (1, .int (nI x)), (2, .int (nI o))] → W p l e rm_Mo_bagOf s m args below meth c s.heap [] 0 0 Q (F0 m 24 ls []) := by
          intro fu24
          induction fu24 with
          | zero =>
            intro b nx hb0 hnx hm24
            exact absurd hm24 (Nat.not_lt_zero _)
          | succ fu24 ih24 =>
            intro b nx hb0 hnx hm24 ls hl
            refine lv_iload hx hb dMo_bagOf_24 (lv_at hl 0 rfl) ?_
            refine lv_aload_n hx hb dMo_bagOf_26 rfl (lv_at hl 5 rfl) ?_
            refine gf_Mo_68 Sf r 0 rfl rfl dMo_bagOf_27 ?_
            refine z_icmpge (tgt := 95) hx hb (by omega) (by omega) dMo_bagOf_30 (by decide) (fun c30 => ?_) (fun c30 => ?_)
            · skip
              have hbn : b = n := by omega
              have hnx2 : nx = bgN Li x o sn n := by rw [hnx, hbn]
              have hge : sn ≤ nx := by rw [hnx]; exact bgN_ge b
              have hnl : nx < 4096 := by rw [hnx]; exact bgN_lt hLi hsn b
              have hk1 := hk (by omega)
              obtain ⟨k2, rfl⟩ : ∃ k2, k = k2 + 1 := ⟨k - 1, by omega⟩
              have h11 := h1 (by omega)
              refine lv_iload hx hb dMo_bagOf_95 (lv_at hl 1 rfl) ?_
              refine lv_iload hx hb dMo_bagOf_97 (lv_at hl 3 rfl) ?_
              refine z_icmpeq (tgt := 106) hx hb (by omega) (by omega) dMo_bagOf_99 (by decide) (fun c99 => ?_) (fun c99 => ?_)
              · skip
                refine lv_iconst (v := (nI 0)) hx hb dMo_bagOf_106 (by decide) ?_
                refine lv_istore (lv' := [(5, .int (nI 0)), (7, .int (nI b)), (6, .int (nI nx)), (4, .int (nI sn)), (3, .int (nI (2 ^ x))), (0, .ref m0), (1, .int (nI x)), (2, .int (nI o))]) hx hb dMo_bagOf_107 hl (by decide) rfl (fun ls hl => ?_)
                refine lv_iload hx hb dMo_bagOf_109 (lv_at hl 2 rfl) ?_
                refine lv_istore (lv' := [(4, .int (nI nx)), (5, .int (nI 0)), (7, .int (nI b)), (6, .int (nI nx)), (3, .int (nI (2 ^ x))), (0, .ref m0), (1, .int (nI x)), (2, .int (nI o))]) hx hb dMo_bagOf_111 hl (by decide) rfl (fun ls hl => ?_)
                refine lv_goto (tgt := 12) hx hb dMo_bagOf_113 (by decide) ?_
                refine ih12 k2 nx 0 ?_ ?_ ?_ ?_ ?_ ?_ ls (lv_sub hl [1, 0, 4, 5, 6, 7] rfl)
                · rw [hnx]; exact bgN_lt hLi hsn b
                · omega
                · intro q; first | exact absurd q (by decide) | omega
                · intro q; first | exact absurd q (by decide) | (rw [← h11, bgX_n (by rw [← hnx2]; exact c99), ← hnx2])
                · intro q; first | exact absurd q (by decide) | (rw [← h11, bgX_e (by rw [← hnx2]; exact c99)]; exact c99)
                · omega
              · skip
                refine lv_iconst (v := (nI 1)) hx hb dMo_bagOf_102 (by decide) ?_
                refine lv_goto (tgt := 107) hx hb dMo_bagOf_103 (by decide) ?_
                refine lv_istore (lv' := [(5, .int (nI 1)), (7, .int (nI b)), (6, .int (nI nx)), (4, .int (nI sn)), (3, .int (nI (2 ^ x))), (0, .ref m0), (1, .int (nI x)), (2, .int (nI o))]) hx hb dMo_bagOf_107 hl (by decide) rfl (fun ls hl => ?_)
                refine lv_iload hx hb dMo_bagOf_109 (lv_at hl 2 rfl) ?_
                refine lv_istore (lv' := [(4, .int (nI nx)), (5, .int (nI 1)), (7, .int (nI b)), (6, .int (nI nx)), (3, .int (nI (2 ^ x))), (0, .ref m0), (1, .int (nI x)), (2, .int (nI o))]) hx hb dMo_bagOf_111 hl (by decide) rfl (fun ls hl => ?_)
                refine lv_goto (tgt := 12) hx hb dMo_bagOf_113 (by decide) ?_
                refine ih12 k2 nx 1 ?_ ?_ ?_ ?_ ?_ ?_ ls (lv_sub hl [1, 0, 4, 5, 6, 7] rfl)
                · rw [hnx]; exact bgN_lt hLi hsn b
                · omega
                · intro q; first | exact absurd q (by decide) | omega
                · intro q; first | exact absurd q (by decide) | (rw [← h11, bgX_n (by rw [← hnx2]; exact c99), ← hnx2])
                · intro q; first | exact absurd q (by decide) | (rw [← h11, bgX_e (by rw [← hnx2]; exact c99)]; exact c99)
                · omega
            · skip
              refine lv_iload hx hb dMo_bagOf_33 (lv_at hl 3 rfl) ?_
              refine lv_iload hx hb dMo_bagOf_35 (lv_at hl 0 rfl) ?_
              refine z_shrN hx hb (by omega) (by omega) dMo_bagOf_37 ?_
              refine lv_iconst (v := (nI 1)) hx hb dMo_bagOf_38 (by decide) ?_
              refine z_and1 hx hb dMo_bagOf_39 ?_
              refine lv_iconst (v := (nI 1)) hx hb dMo_bagOf_40 (by decide) ?_
              refine z_icmpneSB (tgt := 64) hx hb dMo_bagOf_41 (by decide) (fun c41 => ?_) (fun c41 => ?_)
              · skip
                refine lv_iconst (v := (nI 0)) hx hb dMo_bagOf_64 (by decide) ?_
                refine lv_istore (lv' := [(8, .int (nI 0)), (7, .int (nI b)), (6, .int (nI nx)), (5, .int (nI mo)), (4, .int (nI sn)), (3, .int (nI (2 ^ x))), (0, .ref m0), (1, .int (nI x)), (2, .int (nI o))]) hx hb dMo_bagOf_65 hl (by decide) rfl (fun ls hl => ?_)
                refine lv_iload hx hb dMo_bagOf_67 (lv_at hl 0 rfl) ?_
                refine z_ifeqN (tgt := 85) hx hb (by decide) dMo_bagOf_69 (by decide) (fun _ => ?_) (fun q => absurd q (by decide))
                refine lv_iload hx hb dMo_bagOf_85 (lv_at hl 2 rfl) ?_
                refine lv_istore (lv' := [(6, .int (nI nx)), (8, .int (nI 0)), (7, .int (nI b)), (5, .int (nI mo)), (4, .int (nI sn)), (3, .int (nI (2 ^ x))), (0, .ref m0), (1, .int (nI x)), (2, .int (nI o))]) hx hb dMo_bagOf_87 hl (by decide) rfl (fun ls hl => ?_)
                refine z_iinc (d := 1) (lv' := [(7, .int (nI (b + 1))), (6, .int (nI nx)), (8, .int (nI 0)), (5, .int (nI mo)), (4, .int (nI sn)), (3, .int (nI (2 ^ x))), (0, .ref m0), (1, .int (nI x)), (2, .int (nI o))]) hx hb dMo_bagOf_89 hl (k := 2) rfl (by decide) (by decide) rfl (fun ls hl => ?_)
                refine lv_goto (tgt := 24) hx hb dMo_bagOf_92 (by decide) ?_
                refine ih24 (b + 1) _ ?_ ?_ ?_ ls (lv_sub hl [0, 1, 3, 4, 5, 6, 7, 8] rfl)
                · omega
                · first | (rw [bgN_t ⟨c41, Or.inl c47⟩, hnx]; done) | (rw [bgN_t ⟨c41, Or.inr c57⟩, hnx]; done) | (rw [bgN_f (fun h => by rw [c41] at h; exact absurd h.1 (by decide)), hnx]; done) | (rw [bgN_f (fun h => h.2.elim c47 (fun q => by rw [c57] at q; exact absurd q (by decide))), hnx])
                · omega
              · skip
                refine lv_iload hx hb dMo_bagOf_44 (lv_at hl 0 rfl) ?_
                refine lv_iload_n hx hb dMo_bagOf_46 rfl (lv_at hl 6 rfl) ?_
                refine z_icmpeq (tgt := 60) hx hb (by omega) (by omega) dMo_bagOf_47 (by decide) (fun c47 => ?_) (fun c47 => ?_)
                · skip
                  refine lv_iconst (v := (nI 1)) hx hb dMo_bagOf_60 (by decide) ?_
                  refine lv_goto (tgt := 65) hx hb dMo_bagOf_61 (by decide) ?_
                  refine lv_istore (lv' := [(8, .int (nI 1)), (7, .int (nI b)), (6, .int (nI nx)), (5, .int (nI mo)), (4, .int (nI sn)), (3, .int (nI (2 ^ x))), (0, .ref m0), (1, .int (nI x)), (2, .int (nI o))]) hx hb dMo_bagOf_65 hl (by decide) rfl (fun ls hl => ?_)
                  refine lv_iload hx hb dMo_bagOf_67 (lv_at hl 0 rfl) ?_
                  refine z_ifeqN (tgt := 85) hx hb (by decide) dMo_bagOf_69 (by decide) (fun q => absurd q (by decide)) (fun _ => ?_)
                  refine lv_iload hx hb dMo_bagOf_72 (lv_at hl 2 rfl) ?_
                  refine lv_aload_n hx hb dMo_bagOf_74 rfl (lv_at hl 6 rfl) ?_
                  refine gf_Mo_34 Sf r 0 rfl rfl dMo_bagOf_75 ?_
                  refine lv_iload hx hb dMo_bagOf_78 (lv_at hl 1 rfl) ?_
                  refine z_iald hx hb r 1 (k := b) rfl (by omega) (by omega) dMo_bagOf_80 ?_
                  refine z_orN hx hb dMo_bagOf_81 ?_
                  refine lv_goto (tgt := 87) hx hb dMo_bagOf_82 (by decide) ?_
                  refine lv_istore (lv' := [(6, .int (nI (nx ||| (Li b)))), (8, .int (nI 1)), (7, .int (nI b)), (5, .int (nI mo)), (4, .int (nI sn)), (3, .int (nI (2 ^ x))), (0, .ref m0), (1, .int (nI x)), (2, .int (nI o))]) hx hb dMo_bagOf_87 hl (by decide) rfl (fun ls hl => ?_)
                  refine z_iinc (d := 1) (lv' := [(7, .int (nI (b + 1))), (6, .int (nI (nx ||| (Li b)))), (8, .int (nI 1)), (5, .int (nI mo)), (4, .int (nI sn)), (3, .int (nI (2 ^ x))), (0, .ref m0), (1, .int (nI x)), (2, .int (nI o))]) hx hb dMo_bagOf_89 hl (k := 2) rfl (by decide) (by decide) rfl (fun ls hl => ?_)
                  refine lv_goto (tgt := 24) hx hb dMo_bagOf_92 (by decide) ?_
                  refine ih24 (b + 1) (nx ||| (Li b)) ?_ ?_ ?_ ls (lv_sub hl [0, 1, 3, 4, 5, 6, 7, 8] rfl)
                  · omega
                  · first | (rw [bgN_t ⟨c41, Or.inl c47⟩, hnx]; done) | (rw [bgN_t ⟨c41, Or.inr c57⟩, hnx]; done) | (rw [bgN_f (fun h => by rw [c41] at h; exact absurd h.1 (by decide)), hnx]; done) | (rw [bgN_f (fun h => h.2.elim c47 (fun q => by rw [c57] at q; exact absurd q (by decide))), hnx])
                  · omega
                · skip
                  refine lv_iload_n hx hb dMo_bagOf_50 rfl (lv_at hl 7 rfl) ?_
                  refine lv_iload hx hb dMo_bagOf_51 (lv_at hl 0 rfl) ?_
                  refine z_shrN hx hb (by omega) (by omega) dMo_bagOf_53 ?_
                  refine lv_iconst (v := (nI 1)) hx hb dMo_bagOf_54 (by decide) ?_
                  refine z_and1 hx hb dMo_bagOf_55 ?_
                  refine lv_iconst (v := (nI 1)) hx hb dMo_bagOf_56 (by decide) ?_
                  refine z_icmpneSB (tgt := 64) hx hb dMo_bagOf_57 (by decide) (fun c57 => ?_) (fun c57 => ?_)
                  · skip
                    refine lv_iconst (v := (nI 0)) hx hb dMo_bagOf_64 (by decide) ?_
                    refine lv_istore (lv' := [(8, .int (nI 0)), (7, .int (nI b)), (6, .int (nI nx)), (5, .int (nI mo)), (4, .int (nI sn)), (3, .int (nI (2 ^ x))), (0, .ref m0), (1, .int (nI x)), (2, .int (nI o))]) hx hb dMo_bagOf_65 hl (by decide) rfl (fun ls hl => ?_)
                    refine lv_iload hx hb dMo_bagOf_67 (lv_at hl 0 rfl) ?_
                    refine z_ifeqN (tgt := 85) hx hb (by decide) dMo_bagOf_69 (by decide) (fun _ => ?_) (fun q => absurd q (by decide))
                    refine lv_iload hx hb dMo_bagOf_85 (lv_at hl 2 rfl) ?_
                    refine lv_istore (lv' := [(6, .int (nI nx)), (8, .int (nI 0)), (7, .int (nI b)), (5, .int (nI mo)), (4, .int (nI sn)), (3, .int (nI (2 ^ x))), (0, .ref m0), (1, .int (nI x)), (2, .int (nI o))]) hx hb dMo_bagOf_87 hl (by decide) rfl (fun ls hl => ?_)
                    refine z_iinc (d := 1) (lv' := [(7, .int (nI (b + 1))), (6, .int (nI nx)), (8, .int (nI 0)), (5, .int (nI mo)), (4, .int (nI sn)), (3, .int (nI (2 ^ x))), (0, .ref m0), (1, .int (nI x)), (2, .int (nI o))]) hx hb dMo_bagOf_89 hl (k := 2) rfl (by decide) (by decide) rfl (fun ls hl => ?_)
                    refine lv_goto (tgt := 24) hx hb dMo_bagOf_92 (by decide) ?_
                    refine ih24 (b + 1) _ ?_ ?_ ?_ ls (lv_sub hl [0, 1, 3, 4, 5, 6, 7, 8] rfl)
                    · omega
                    · first | (rw [bgN_t ⟨c41, Or.inl c47⟩, hnx]; done) | (rw [bgN_t ⟨c41, Or.inr c57⟩, hnx]; done) | (rw [bgN_f (fun h => by rw [c41] at h; exact absurd h.1 (by decide)), hnx]; done) | (rw [bgN_f (fun h => h.2.elim c47 (fun q => by rw [c57] at q; exact absurd q (by decide))), hnx])
                    · omega
                  · skip
                    refine lv_iconst (v := (nI 1)) hx hb dMo_bagOf_60 (by decide) ?_
                    refine lv_goto (tgt := 65) hx hb dMo_bagOf_61 (by decide) ?_
                    refine lv_istore (lv' := [(8, .int (nI 1)), (7, .int (nI b)), (6, .int (nI nx)), (5, .int (nI mo)), (4, .int (nI sn)), (3, .int (nI (2 ^ x))), (0, .ref m0), (1, .int (nI x)), (2, .int (nI o))]) hx hb dMo_bagOf_65 hl (by decide) rfl (fun ls hl => ?_)
                    refine lv_iload hx hb dMo_bagOf_67 (lv_at hl 0 rfl) ?_
                    refine z_ifeqN (tgt := 85) hx hb (by decide) dMo_bagOf_69 (by decide) (fun q => absurd q (by decide)) (fun _ => ?_)
                    refine lv_iload hx hb dMo_bagOf_72 (lv_at hl 2 rfl) ?_
                    refine lv_aload_n hx hb dMo_bagOf_74 rfl (lv_at hl 6 rfl) ?_
                    refine gf_Mo_34 Sf r 0 rfl rfl dMo_bagOf_75 ?_
                    refine lv_iload hx hb dMo_bagOf_78 (lv_at hl 1 rfl) ?_
                    refine z_iald hx hb r 1 (k := b) rfl (by omega) (by omega) dMo_bagOf_80 ?_
                    refine z_orN hx hb dMo_bagOf_81 ?_
                    refine lv_goto (tgt := 87) hx hb dMo_bagOf_82 (by decide) ?_
                    refine lv_istore (lv' := [(6, .int (nI (nx ||| (Li b)))), (8, .int (nI 1)), (7, .int (nI b)), (5, .int (nI mo)), (4, .int (nI sn)), (3, .int (nI (2 ^ x))), (0, .ref m0), (1, .int (nI x)), (2, .int (nI o))]) hx hb dMo_bagOf_87 hl (by decide) rfl (fun ls hl => ?_)
                    refine z_iinc (d := 1) (lv' := [(7, .int (nI (b + 1))), (6, .int (nI (nx ||| (Li b)))), (8, .int (nI 1)), (5, .int (nI mo)), (4, .int (nI sn)), (3, .int (nI (2 ^ x))), (0, .ref m0), (1, .int (nI x)), (2, .int (nI o))]) hx hb dMo_bagOf_89 hl (k := 2) rfl (by decide) (by decide) rfl (fun ls hl => ?_)
                    refine lv_goto (tgt := 24) hx hb dMo_bagOf_92 (by decide) ?_
                    refine ih24 (b + 1) (nx ||| (Li b)) ?_ ?_ ?_ ls (lv_sub hl [0, 1, 3, 4, 5, 6, 7, 8] rfl)
                    · omega
                    · first | (rw [bgN_t ⟨c41, Or.inl c47⟩, hnx]; done) | (rw [bgN_t ⟨c41, Or.inr c57⟩, hnx]; done) | (rw [bgN_f (fun h => by rw [c41] at h; exact absurd h.1 (by decide)), hnx]; done) | (rw [bgN_f (fun h => h.2.elim c47 (fun q => by rw [c57] at q; exact absurd q (by decide))), hnx])
                    · omega
        refine L24 ((n - 0) + 1) 0 sn ?_ ?_ ?_ ls (lv_sub hl [0, 1, 2, 3, 4, 5, 6, 7] rfl)
        · omega
        · rfl
        · exact Nat.lt_succ_self _
  refine L12 ((4096 - (2 ^ x) + 1) + 1) 4096 (2 ^ x) 1 ?_ ?_ ?_ ?_ ?_ ?_ ls (lv_sub hl [0, 1, 2, 3, 4, 5] rfl)
  · exact pw_lt (by omega)
  · omega
  · intro _; exact Nat.le_add_right _ _
  · intro _; rfl
  · intro q; exact absurd q (by decide)
  · exact Nat.lt_succ_self _

def rm_Mo_price : Room := { frames := 1, cells := 0, slots := 0, locals := 50 }
set_option maxHeartbeats 4000000 in
set_option maxRecDepth 100000 in
theorem c_Mo_price (l : Launch) (G : zG) (m0 av ab apl ase aco aen aor aba ali ale ach ast atw ats : Nat) (n stt nf mem kd sl fi tp th : Nat) (V Li Le Ch : Nat → Nat) (x o : Nat) (hn : n ≤ 12) (hx0 : x < n) (hV : ∀ j, V j ≤ 4) (hLi : ∀ i, Li i < 4096) (ho : o < 4096) (hLe : Le 0 ≤ 101) (hCh : Ch (o ||| 2 ^ x) < 2 ^ 31) : Met l yMo_price (.code yMo_price cMo_price 6 (some .long) :: zT) rm_Mo_price (zPr G [.ref m0, .int (nI x), .int (nI o)] [(m0, zO 7 [.int (nI n), .ref av, .ref ab, .ref apl, .int (nI stt), .int (nI nf), .ref ase, .ref aco, .ref aen, .int (nI mem), .int (nI kd), .int (nI sl), .ref aor, .ref aba, .int (nI fi), .ref ali, .ref ale, .ref ach, .ref ast, .ref atw, .ref ats, .int (nI tp), .int (nI th)]), (av, zI G 12 (fun j => nI (V j))), (ali, zI G 12 (fun j => nI (Li j))), (ale, zI G 4096 (fun j => mI (Le j))), (ach, zL G 4096 (fun j => mL (Ch j)))]) (k2_QcV (.long (mL (pcF V Li n (Le 0) Ch x o)))) 0 0 (fun _ => False) := by
  refine z_metRl (by decide) (Nat.le_of_ble_eq_true rfl) (fun p e s m args below meth c ls Q Sf r hl hret => ?_)
  have Sf : CallFix p m c cMo_price 6 s args zT RMo := Sf
  have hx := Sf.1
  have hb := Sf.2.1
  have hown := Sf.2.2.2.1
  have hts := Sf.2.2.2.2
  have hl : lv_has ls 6 [(0, .ref m0), (1, .int (nI x)), (2, .int (nI o))] := hl
  refine lv_aload_n hx hb dMo_price_0 rfl (lv_at hl 0 rfl) ?_
  refine lv_iload_n hx hb dMo_price_1 rfl (lv_at hl 1 rfl) ?_
  refine lv_iload_n hx hb dMo_price_2 rfl (lv_at hl 2 rfl) ?_
  refine z_rV (As := [.int (nI x), .int (nI o)]) (rest := []) Sf (c_Mo_bagOf l G m0 av ab apl ase aco aen aor aba ali ale ach ast atw ats n stt nf mem kd sl fi tp th Li x o (by first | assumption | omega) (by first | assumption | omega) (by first | assumption | omega) (by first | assumption | omega)) mv_Mo_119 ⟨rfl, rfl⟩ ⟨Nat.le_of_ble_eq_true rfl, Nat.le_of_ble_eq_true rfl⟩ r [0, 2] rfl 0 rfl rfl rfl rfl hl.1 rfl (Nat.le_of_ble_eq_true rfl) dMo_price_3 ⟨Nat.le_of_ble_eq_true rfl, Nat.le_of_ble_eq_true rfl⟩ ?_
  refine lv_istore_n (lv' := [(3, .int (nI (mbF Li n x o))), (0, .ref m0), (1, .int (nI x)), (2, .int (nI o))]) hx hb dMo_price_6 rfl hl (by decide) rfl (fun ls hl => ?_)
  have hbg : mbF Li n x o < 4096 := mbF_lt hLi (by omega)
  have hp := popc_le _ hbg
  have hc := cellsF_b hV (mbF Li n x o) hn
  refine lv_aload_n hx hb dMo_price_7 rfl (lv_at hl 1 rfl) ?_
  refine gf_Mo_40 Sf r 0 rfl rfl dMo_price_8 ?_
  refine lv_iload_n hx hb dMo_price_11 rfl (lv_at hl 3 rfl) ?_
  refine lv_iconst (v := (nI 1)) hx hb dMo_price_12 (by decide) ?_
  refine lv_iload_n hx hb dMo_price_13 rfl (lv_at hl 2 rfl) ?_
  refine z_shl1 hx hb (by omega) dMo_price_14 ?_
  refine z_orN hx hb dMo_price_15 ?_
  refine z_lald hx hb r 4 (k := (o ||| (2 ^ x))) rfl (or_lt ho (pw_lt (by omega))) (by omega) dMo_price_16 ?_
  refine lv_lstore (lv' := [(4, .long (mL (Ch (o ||| (2 ^ x))))), (3, .int (nI (mbF Li n x o))), (0, .ref m0), (1, .int (nI x)), (2, .int (nI o))]) hx hb dMo_price_17 hl (by decide) rfl (fun ls hl => ?_)
  refine lv_iload_n hx hb dMo_price_19 rfl (lv_at hl 1 rfl) ?_
  refine z_rS (As := [.int (nI (mbF Li n x o))]) (rest := []) Sf (c_Mo_many l G (mbF Li n x o) hbg) mv_Mo_86 ⟨rfl, rfl⟩ ⟨Nat.le_of_ble_eq_true rfl, Nat.le_of_ble_eq_true rfl⟩ r [] rfl rfl hl.1 rfl (Nat.le_of_ble_eq_true rfl) dMo_price_20 ⟨Nat.le_of_ble_eq_true rfl, Nat.le_of_ble_eq_true rfl⟩ ?_
  refine lv_iconst (v := (nI 1)) hx hb dMo_price_23 (by decide) ?_
  refine z_subM hx hb dMo_price_24 ?_
  refine lv_aload_n hx hb dMo_price_25 rfl (lv_at hl 2 rfl) ?_
  refine gf_Mo_37 Sf r 0 rfl rfl dMo_price_26 ?_
  refine lv_iconst (v := (nI 0)) hx hb dMo_price_29 (by decide) ?_
  refine z_iald hx hb r 3 (k := 0) rfl (by omega) (by omega) dMo_price_30 ?_
  refine z_icmpgtMM (tgt := 41) hx hb (by omega) (by omega) dMo_price_31 (by decide) (fun c31 => ?_) (fun c31 => ?_)
  · skip
    refine lv_ldc2 (v := (mL 0)) hx hb hown (hts _ kc_Mo_107) dMo_price_41 ?_
    refine lv_goto (tgt := 56) hx hb dMo_price_44 (by decide) ?_
    exact hret _ _ _ dMo_price_56 (by first | (rw [pcF_n (Or.inl c31)]; done) | (rw [pcF_n (Or.inr (by omega))]; done))
  · skip
    refine lv_lload hx hb dMo_price_34 (lv_at hl 0 rfl) ?_
    refine lv_lconst (v := lN 0) hx hb dMo_price_36 (by decide) ?_
    refine W.lcmp hx hb dMo_price_37 ?_
    refine z_lcgeMN (tgt := 47) hx hb (by omega) (by omega) dMo_price_38 (by decide) (fun c38 => ?_) (fun c38 => ?_)
    · skip
      refine lv_aload_n hx hb dMo_price_47 rfl (lv_at hl 2 rfl) ?_
      refine lv_iload_n hx hb dMo_price_48 rfl (lv_at hl 1 rfl) ?_
      refine z_rV (As := [.int (nI (mbF Li n x o))]) (rest := []) Sf (c_Mo_cells l G m0 av ab apl ase aco aen aor aba ali ale ach ast atw ats n stt nf mem kd sl fi tp th V (mbF Li n x o) (by first | assumption | omega) hbg) mv_Mo_97 ⟨rfl, rfl⟩ ⟨Nat.le_of_ble_eq_true rfl, Nat.le_of_ble_eq_true rfl⟩ r [0, 1] rfl 0 rfl rfl rfl rfl hl.1 rfl (Nat.le_of_ble_eq_true rfl) dMo_price_49 ⟨Nat.le_of_ble_eq_true rfl, Nat.le_of_ble_eq_true rfl⟩ ?_
      refine lv_i2l (v := lN (cellsF V (mbF Li n x o) n)) hx hb dMo_price_52 (nI_l (by omega)) ?_
      refine lv_lload hx hb dMo_price_53 (lv_at hl 0 rfl) ?_
      refine z_laddNM hx hb dMo_price_55 ?_
      exact hret _ _ _ dMo_price_56 (by rw [pcF_y (fun h => h.elim (fun q => by omega) (fun q => by omega))])
    · skip
      refine lv_ldc2 (v := (mL 0)) hx hb hown (hts _ kc_Mo_107) dMo_price_41 ?_
      refine lv_goto (tgt := 56) hx hb dMo_price_44 (by decide) ?_
      exact hret _ _ _ dMo_price_56 (by first | (rw [pcF_n (Or.inl c31)]; done) | (rw [pcF_n (Or.inr (by omega))]; done))
end
