-- WHAT IS KNOWN OF THE TABLES BESIDE THE GOOD WORDS: the class of the rows of factors, the links of nest mates
def zNest : Cond := (Cond.methodLinkNest "TableOrders" (11 : Nat) ({ cls := "TableOrders$Graph", name := "<init>", desc := "()V" } : Jvm.MethodName) "TableOrders")
def zNestF : Cond := (Cond.fieldLinkNest "TableOrders$Factors" (47 : Nat) "TableOrders$Factor" "powers" "[I" "TableOrders")
def zKn (U : State) : Prop := va_AO "TableOrders$Factor" U ∧ va_Nw zNest U ∧ va_Nw zNestF U
theorem zKn.same {u U : State} (h : u.vm = U.vm) (k : zKn u) : zKn U := ⟨va_AO.moved (h ▸ Vm.Alike.refl u.vm) k.1, va_Nw.same rfl h k.2.1, va_Nw.same rfl h k.2.2⟩
theorem zKn.warm {s U : State} (hW : s.WarmedH U.vm) (k : zKn s) : zKn U := ⟨va_AO.moved hW.alike k.1, va_Nw.warmM hW k.2.1, va_Nw.warmF hW k.2.2⟩
