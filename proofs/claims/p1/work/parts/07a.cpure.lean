-- PURE: what the class's graph, search and sequence compute
theorem mI_add (a b : Nat) : nI a + mI b = mI (a + b) := by
  unfold mI
  rw [Int32.sub_eq_add_neg, Int32.sub_eq_add_neg, ← Int32.add_assoc]
  congr 1
  exact (nI_add a b)
section ZR7
variable {p : Program} {l : Launch} {e : Env} {R : Room} {s : State} {m : MethodId} {args : Array Value} {below : List Frame} {meth : Method} {c : Code} {H : Heap} {locs : List Loc} {cells slots : Nat} {Q : State → Prop}
variable {cc : ByteArray} {pc nL : Nat} {ls : Array Slot} {rest : List Value}
theorem z_addNM (hx : p.tables.exec = Jvm.exec) (hb : c.code = cc) {a b : Nat} (hdg : decode cc pc = .ok (.iadd, 1))
    (kk : W p l e R s m args below meth c H locs cells slots Q (F0 m (pc + 1) ls (.int (mI (a + b)) :: rest))) : W p l e R s m args below meth c H locs cells slots Q (F0 m pc ls (.int (mI b) :: .int (nI a) :: rest)) := by
  refine lv_iadd hx hb hdg ?_
  rw [mI_add]
  exact kk
theorem z_mmaxZ {own : String} {index : Nat} (S : CallFix p m c cc nL s args zT own) (hy : zSt own index yJm_max cJm_max 2 (some .int) 2) (hl : ls.size = nL) (hR : 1 ≤ R.frames ∧ 21 ≤ R.locals) (hcat : (rest.map fun v => v.category).sum ≤ 8) (hf : cells ≤ R.cells ∧ slots ≤ R.slots) {x y : Int32} (hdg : decode cc pc = .ok (.invokestatic index, 3))
    (kk : W p l e R s m args below meth c H locs cells slots Q (F0 m (pc + 3) ls (.int (if x < y then y else x) :: rest))) : W p l e R s m args below meth c H locs cells slots Q (F0 m pc ls (.int y :: .int x :: rest)) :=
  va_mmax S.1 S.2.1 (by rw [S.2.2.1, hl]) S.2.2.2.1 (S.2.2.2.2 _ hy.1.1) (S.2.2.2.2 _ hy.1.2.1) (S.2.2.2.2 _ hy.1.2.2.1) (S.2.2.2.2 _ hy.1.2.2.2) hR.1 (by omega) hf.1 hf.2 hdg kk
theorem z_mminZ {own : String} {index : Nat} (S : CallFix p m c cc nL s args zT own) (hy : zSt own index yJm_min cJm_min 2 (some .int) 2) (hl : ls.size = nL) (hR : 1 ≤ R.frames ∧ 21 ≤ R.locals) (hcat : (rest.map fun v => v.category).sum ≤ 8) (hf : cells ≤ R.cells ∧ slots ≤ R.slots) {x y : Int32} (hdg : decode cc pc = .ok (.invokestatic index, 3))
    (kk : W p l e R s m args below meth c H locs cells slots Q (F0 m (pc + 3) ls (.int (if y < x then y else x) :: rest))) : W p l e R s m args below meth c H locs cells slots Q (F0 m pc ls (.int y :: .int x :: rest)) :=
  va_mmin S.1 S.2.1 (by rw [S.2.2.1, hl]) S.2.2.2.1 (S.2.2.2.2 _ hy.1.1) (S.2.2.2.2 _ hy.1.2.1) (S.2.2.2.2 _ hy.1.2.2.1) (S.2.2.2.2 _ hy.1.2.2.2) hR.1 (by omega) hf.1 hf.2 hdg kk
theorem mxM {a b : Nat} (ha : a < 2 ^ 30) (hb : b < 2 ^ 30) : (if mI a < mI b then mI b else mI a) = mI (max a b) := by
  have h : mI a < mI b ↔ a < b := by rw [Int32.lt_iff_toInt_lt, mI_toInt ha, mI_toInt hb]; omega
  by_cases q : a < b
  · rw [if_pos (h.mpr q), Nat.max_eq_right (by omega)]
  · rw [if_neg (fun z => q (h.mp z)), Nat.max_eq_left (by omega)]
theorem mxN {a b : Nat} (ha : a < 2 ^ 31) (hb : b < 2 ^ 31) : (if nI a < nI b then nI b else nI a) = nI (max a b) := by
  have h : nI a < nI b ↔ a < b := by rw [Int32.lt_iff_toInt_lt, nI_toInt ha, nI_toInt hb]; omega
  by_cases q : a < b
  · rw [if_pos (h.mpr q), Nat.max_eq_right (by omega)]
  · rw [if_neg (fun z => q (h.mp z)), Nat.max_eq_left (by omega)]
theorem mnM {a b : Nat} (ha : a < 2 ^ 30) (hb : b < 2 ^ 30) : (if mI b < mI a then mI b else mI a) = mI (min a b) := by
  have h : mI b < mI a ↔ b < a := by rw [Int32.lt_iff_toInt_lt, mI_toInt ha, mI_toInt hb]; omega
  by_cases q : b < a
  · rw [if_pos (h.mpr q), Nat.min_eq_right (by omega)]
  · rw [if_neg (fun z => q (h.mp z)), Nat.min_eq_left (by omega)]
theorem mnN {a b : Nat} (ha : a < 2 ^ 31) (hb : b < 2 ^ 31) : (if nI b < nI a then nI b else nI a) = nI (min a b) := by
  have h : nI b < nI a ↔ b < a := by rw [Int32.lt_iff_toInt_lt, nI_toInt ha, nI_toInt hb]; omega
  by_cases q : b < a
  · rw [if_pos (h.mpr q), Nat.min_eq_right (by omega)]
  · rw [if_neg (fun z => q (h.mp z)), Nat.min_eq_left (by omega)]
end ZR7
def jnF (Nb : Nat → Nat) (S i : Nat) : Nat := if S.testBit i then Nb i ||| sdf S (2 ^ i) else Nb i
theorem jnF_t {Nb : Nat → Nat} {S i : Nat} (h : S.testBit i = true) : jnF Nb S i = Nb i ||| sdf S (2 ^ i) := by simp [jnF, h]
theorem jnF_f {Nb : Nat → Nat} {S i : Nat} (h : S.testBit i = false) : jnF Nb S i = Nb i := by simp [jnF, h]
-- the search
def lwC (Nb F : Nat → Nat) (n out : Nat) : Nat → Nat
  | 0 => 13
  | a + 1 => if out.testBit a then lwC Nb F n out a else min (lwC Nb F n out a) (max (popc (bagF Nb n a out)) (F (out ||| 2 ^ a)))
theorem lwC_o {L F : Nat → Nat} {n out a : Nat} (h : out.testBit a = true) : lwC L F n out (a + 1) = lwC L F n out a := by simp [lwC, h]
theorem lwC_i {L F : Nat → Nat} {n out a : Nat} (h : out.testBit a = false) : lwC L F n out (a + 1) = min (lwC L F n out a) (max (popc (bagF L n a out)) (F (out ||| 2 ^ a))) := by simp [lwC, h]
theorem lwC_le {L F : Nat → Nat} {n out : Nat} : ∀ a, lwC L F n out a ≤ 13
  | 0 => Nat.le_refl _
  | a + 1 => by
    have := lwC_le (L := L) (F := F) (n := n) (out := out) a
    cases h : out.testBit a
    · rw [lwC_i h]; omega
    · rw [lwC_o h]; exact this
def lwR (L Le : Nat → Nat) (n : Nat) : Nat → (Nat → Nat)
  | 0 => va_up Le (2 ^ n - 1) 0
  | j + 1 => va_up (lwR L Le n j) (2 ^ n - 1 - 1 - j) (lwC L (lwR L Le n j) n (2 ^ n - 1 - 1 - j) n)
theorem lwR_le {L Le : Nat → Nat} {n : Nat} (h : ∀ i, Le i ≤ 268435457) : ∀ j i, lwR L Le n j i ≤ 268435457
  | 0, i => by
    simp only [lwR]
    unfold va_up
    split
    · omega
    · exact h i
  | j + 1, i => by
    simp only [lwR]
    unfold va_up
    split
    · exact Nat.le_trans (lwC_le n) (by decide)
    · exact lwR_le h j i
def cfC (Nb Lc F : Nat → Nat) (n wd a o : Nat) : Nat := if wd < popc (bagF Nb n a o) then 268435457 else Lc (bagF Nb n a o) + F (o ||| 2 ^ a)
theorem cfC_w {Nb Lc F : Nat → Nat} {n wd a o : Nat} (h : wd < popc (bagF Nb n a o)) : cfC Nb Lc F n wd a o = 268435457 := by unfold cfC; rw [if_pos h]
theorem cfC_n {Nb Lc F : Nat → Nat} {n wd a o : Nat} (h : ¬ wd < popc (bagF Nb n a o)) : cfC Nb Lc F n wd a o = Lc (bagF Nb n a o) + F (o ||| 2 ^ a) := by unfold cfC; rw [if_neg h]
theorem cfC_ge {Nb Lc F : Nat → Nat} {n wd a o B : Nat} (h : B ≤ F (o ||| 2 ^ a)) (hB : B ≤ 268435457) : B ≤ cfC Nb Lc F n wd a o := by
  unfold cfC
  split <;> omega
theorem cfC_le {Nb Lc F : Nat → Nat} {n wd a o : Nat} (hL : ∀ i, Lc i ≤ 16777216) (h : F (o ||| 2 ^ a) ≤ 268435457) : cfC Nb Lc F n wd a o ≤ 285212673 := by
  have := hL (bagF Nb n a o)
  unfold cfC
  split <;> omega
def ccC (Nb Lc F : Nat → Nat) (n wd out : Nat) : Nat → Nat
  | 0 => 268435457
  | a + 1 => if out.testBit a then ccC Nb Lc F n wd out a else min (ccC Nb Lc F n wd out a) (cfC Nb Lc F n wd a out)
theorem ccC_o {L Lc F : Nat → Nat} {n wd out a : Nat} (h : out.testBit a = true) : ccC L Lc F n wd out (a + 1) = ccC L Lc F n wd out a := by simp [ccC, h]
theorem ccC_i {L Lc F : Nat → Nat} {n wd out a : Nat} (h : out.testBit a = false) : ccC L Lc F n wd out (a + 1) = min (ccC L Lc F n wd out a) (cfC L Lc F n wd a out) := by simp [ccC, h]
theorem ccC_le {L Lc F : Nat → Nat} {n wd out : Nat} : ∀ a, ccC L Lc F n wd out a ≤ 268435457
  | 0 => Nat.le_refl _
  | a + 1 => by
    have := ccC_le (L := L) (Lc := Lc) (F := F) (n := n) (wd := wd) (out := out) a
    cases h : out.testBit a
    · rw [ccC_i h]; omega
    · rw [ccC_o h]; exact this
def ccR (L Lc Le : Nat → Nat) (n wd : Nat) : Nat → (Nat → Nat)
  | 0 => va_up Le (2 ^ n - 1) 1
  | j + 1 => va_up (ccR L Lc Le n wd j) (2 ^ n - 1 - 1 - j) (ccC L Lc (ccR L Lc Le n wd j) n wd (2 ^ n - 1 - 1 - j) n)
theorem ccR_le {L Lc Le : Nat → Nat} {n wd : Nat} (h : ∀ i, Le i ≤ 268435457) : ∀ j i, ccR L Lc Le n wd j i ≤ 268435457
  | 0, i => by
    simp only [ccR]
    unfold va_up
    split
    · omega
    · exact h i
  | j + 1, i => by
    simp only [ccR]
    unfold va_up
    split
    · exact ccC_le n
    · exact ccR_le h j i
def cdC (Nb Lc F : Nat → Nat) (n wd o a : Nat) : Bool := !o.testBit a && decide (cfC Nb Lc F n wd a o = F o)
/-- which names the best order takes: what is gone, and the row -/
def fwC (Nb Lc F Fo : Nat → Nat) (n wd : Nat) : Nat → Nat × (Nat → Nat)
  | 0 => (0, Fo)
  | i + 1 => if fn5 (cdC Nb Lc F n wd (fwC Nb Lc F Fo n wd i).1) n 0 < n then ((fwC Nb Lc F Fo n wd i).1 ||| 2 ^ fn5 (cdC Nb Lc F n wd (fwC Nb Lc F Fo n wd i).1) n 0, va_up (fwC Nb Lc F Fo n wd i).2 i (fn5 (cdC Nb Lc F n wd (fwC Nb Lc F Fo n wd i).1) n 0)) else fwC Nb Lc F Fo n wd i
theorem fwC_t {Nb Lc F Fo : Nat → Nat} {n wd i : Nat} (h : fn5 (cdC Nb Lc F n wd (fwC Nb Lc F Fo n wd i).1) n 0 < n) : fwC Nb Lc F Fo n wd (i + 1) = ((fwC Nb Lc F Fo n wd i).1 ||| 2 ^ fn5 (cdC Nb Lc F n wd (fwC Nb Lc F Fo n wd i).1) n 0, va_up (fwC Nb Lc F Fo n wd i).2 i (fn5 (cdC Nb Lc F n wd (fwC Nb Lc F Fo n wd i).1) n 0)) := by
  simp only [fwC, if_pos h]
theorem fwC_f {Nb Lc F Fo : Nat → Nat} {n wd i : Nat} (h : ¬ fn5 (cdC Nb Lc F n wd (fwC Nb Lc F Fo n wd i).1) n 0 < n) : fwC Nb Lc F Fo n wd (i + 1) = fwC Nb Lc F Fo n wd i := by
  simp only [fwC, if_neg h]
-- the sequence
/-- what is gone behind i names of an order -/
def goF (Od : Nat → Nat) : Nat → Nat
  | 0 => 0
  | i + 1 => goF Od i ||| 2 ^ Od i
def bgC (Nb : Nat → Nat) (n : Nat) (Od : Nat → Nat) (i : Nat) : Nat := bagF Nb n (Od i) (goF Od i)
def flC (Nb : Nat → Nat) (n : Nat) (Od : Nat → Nat) : Nat → Nat
  | 0 => 0
  | i + 1 => flC Nb n Od i + fillS Nb n (bgC Nb n Od i) (goF Od i) n / 2
theorem mI_ne {a b : Nat} (ha : a < 2 ^ 30) (hb : b < 2 ^ 30) (h : a ≠ b) : mI a ≠ mI b := fun q => h (by
  have := congrArg Int32.toInt q
  rw [mI_toInt ha, mI_toInt hb] at this
  omega)
theorem orb {o a : Nat} (h : o ||| 2 ^ a = o) : o.testBit a = true := by
  cases q : o.testBit a
  · exact absurd h (or_ne q)
  · rfl
theorem orbn {o a : Nat} (h : ¬ o ||| 2 ^ a = o) : o.testBit a = false := by
  cases q : o.testBit a
  · rfl
  · refine absurd (Nat.eq_of_testBit_eq fun i => ?_) h
    rw [Nat.testBit_or, Nat.testBit_two_pow]
    by_cases hi : a = i
    · subst hi
      simp [q]
    · simp [hi]
