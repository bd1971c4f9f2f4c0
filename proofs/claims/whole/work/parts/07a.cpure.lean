-- PURE: what the class's graph, search and sequence compute
theorem mI_add (a b : Nat) : nI a + mI b = mI (a + b) := by
  unfold mI
  rw [Int32.sub_eq_add_neg, Int32.sub_eq_add_neg, ← Int32.add_assoc]
  congr 1
  exact (nI_add a b)
section ZR7
variable {p : Program} {l : Launch} {e : Env} {R : Room} {s : State} {m : MethodId} {args : Array Value} {below : List Frame} {meth : Method} {c : Code} {H : Heap} {locs : List Loc} {cells slots : Nat} {Q : State → Prop}
variable {cc : ByteArray} {pc nL : Nat} {ls : Array Slot} {rest : List Value}
theorem z_addNM (hx : p.tables.exec = Jvm.exec) (hb : c.code = cc) {a b : Nat} (hdg : decode cc pc = .ok (.iadd, 1))
    (kk : W p l e R s m args below meth c H locs cells slots Q (F0 m (pc + 1) ls (.int (mI (a + b)) :: rest))) : W p l e R s m args below meth c H locs cells slots Q (F0 m pc ls (.int (mI b) :: .int (nI a) :: rest)) := by
  refine lv_iadd hx hb hdg ?_
  rw [mI_add]
  exact kk
theorem z_mmaxZ {own : String} {index : Nat} (S : CallFix p m c cc nL s args zT own) (hy : zSt own index yJm_max cJm_max 2 (some .int) 2) (hl : ls.size = nL) (hR : 1 ≤ R.frames ∧ 21 ≤ R.locals) (hcat : (rest.map fun v => v.category).sum ≤ 8) (hf : cells ≤ R.cells ∧ slots ≤ R.slots) {x y : Int32} (hdg : decode cc pc = .ok (.invokestatic index, 3))
    (kk : W p l e R s m args below meth c H locs cells slots Q (F0 m (pc + 3) ls (.int (if x < y then y else x) :: rest))) : W p l e R s m args below meth c H locs cells slots Q (F0 m pc ls (.int y :: .int x :: rest)) :=
  va_mmax S.1 S.2.1 (by rw [S.2.2.1, hl]) S.2.2.2.1 (S.2.2.2.2 _ hy.1.1) (S.2.2.2.2 _ hy.1.2.1) (S.2.2.2.2 _ hy.1.2.2.1) (S.2.2.2.2 _ hy.1.2.2.2) hR.1 (by omega) hf.1 hf.2 hdg kk
theorem z_mminZ {own : String} {index : Nat} (S : CallFix p m c cc nL s args zT own) (hy : zSt own index yJm_min cJm_min 2 (some .int) 2) (hl : ls.size = nL) (hR : 1 ≤ R.frames ∧ 21 ≤ R.locals) (hcat : (rest.map fun v => v.category).sum ≤ 8) (hf : cells ≤ R.cells ∧ slots ≤ R.slots) {x y : Int32} (hdg : decode cc pc = .ok (.invokestatic index, 3))
    (kk : W p l e R s m args below meth c H locs cells slots Q (F0 m (pc + 3) ls (.int (if y < x then y else x) :: rest))) : W p l e R s m args below meth c H locs cells slots Q (F0 m pc ls (.int y :: .int x :: rest)) :=
  va_mmin S.1 S.2.1 (by rw [S.2.2.1, hl]) S.2.2.2.1 (S.2.2.2.2 _ hy.1.1) (S.2.2.2.2 _ hy.1.2.1) (S.2.2.2.2 _ hy.1.2.2.1) (S.2.2.2.2 _ hy.1.2.2.2) hR.1 (by omega) hf.1 hf.2 hdg kk
theorem mxM {a b : Nat} (ha : a < 2 ^ 30) (hb : b < 2 ^ 30) : (if mI a < mI b then mI b else mI a) = mI (max a b) := by
  have h : mI a < mI b ↔ a < b := by rw [Int32.lt_iff_toInt_lt, mI_toInt ha, mI_toInt hb]; omega
  by_cases q : a < b
  · rw [if_pos (h.mpr q), Nat.max_eq_right (by omega)]
  · rw [if_neg (fun z => q (h.mp z)), Nat.max_eq_left (by omega)]
theorem mxN {a b : Nat} (ha : a < 2 ^ 31) (hb : b < 2 ^ 31) : (if nI a < nI b then nI b else nI a) = nI (max a b) := by
  have h : nI a < nI b ↔ a < b := by rw [Int32.lt_iff_toInt_lt, nI_toInt ha, nI_toInt hb]; omega
  by_cases q : a < b
  · rw [if_pos (h.mpr q), Nat.max_eq_right (by omega)]
  · rw [if_neg (fun z => q (h.mp z)), Nat.max_eq_left (by omega)]
theorem mnM {a b : Nat} (ha : a < 2 ^ 30) (hb : b < 2 ^ 30) : (if mI b < mI a then mI b else mI a) = mI (min a b) := by
  have h : mI b < mI a ↔ b < a := by rw [Int32.lt_iff_toInt_lt, mI_toInt ha, mI_toInt hb]; omega
  by_cases q : b < a
  · rw [if_pos (h.mpr q), Nat.min_eq_right (by omega)]
  · rw [if_neg (fun z => q (h.mp z)), Nat.min_eq_left (by omega)]
theorem mnN {a b : Nat} (ha : a < 2 ^ 31) (hb : b < 2 ^ 31) : (if nI b < nI a then nI b else nI a) = nI (min a b) := by
  have h : nI b < nI a ↔ b < a := by rw [Int32.lt_iff_toInt_lt, nI_toInt ha, nI_toInt hb]; omega
  by_cases q : b < a
  · rw [if_pos (h.mpr q), Nat.min_eq_right (by omega)]
  · rw [if_neg (fun z => q (h.mp z)), Nat.min_eq_left (by omega)]
end ZR7
def jnF (Nb : Nat → Nat) (S i : Nat) : Nat := if S.testBit i then Nb i ||| sdf S (2 ^ i) else Nb i
theorem jnF_t {Nb : Nat → Nat} {S i : Nat} (h : S.testBit i = true) : jnF Nb S i = Nb i ||| sdf S (2 ^ i) := by simp [jnF, h]
theorem jnF_f {Nb : Nat → Nat} {S i : Nat} (h : S.testBit i = false) : jnF Nb S i = Nb i := by simp [jnF, h]
-- the search
def lwC (Nb F : Nat → Nat) (n out : Nat) : Nat → Nat
  | 0 => 13
  | a + 1 => if out.testBit a then lwC Nb F n out a else min (lwC Nb F n out a) (max (popc (bagF Nb n a out)) (F (out ||| 2 ^ a)))
theorem lwC_o {L F : Nat → Nat} {n out a : Nat} (h : out.testBit a = true) : lwC L F n out (a + 1) = lwC L F n out a := by simp [lwC, h]
theorem lwC_i {L F : Nat → Nat} {n out a : Nat} (h : out.testBit a = false) : lwC L F n out (a + 1) = min (lwC L F n out a) (max (popc (bagF L n a out)) (F (out ||| 2 ^ a))) := by simp [lwC, h]
theorem lwC_le {L F : Nat → Nat} {n out : Nat} : ∀ a, lwC L F n out a ≤ 13
  | 0 => Nat.le_refl _
  | a + 1 => by
    have := lwC_le (L := L) (F := F) (n := n) (out := out) a
    cases h : out.testBit a
    · rw [lwC_i h]; omega
    · rw [lwC_o h]; exact this
def lwR (L Le : Nat → Nat) (n : Nat) : Nat → (Nat → Nat)
  | 0 => va_up Le (2 ^ n - 1) 0
  | j + 1 => va_up (lwR L Le n j) (2 ^ n - 1 - 1 - j) (lwC L (lwR L Le n j) n (2 ^ n - 1 - 1 - j) n)
theorem lwR_le {L Le : Nat → Nat} {n : Nat} (h : ∀ i, Le i ≤ 268435457) : ∀ j i, lwR L Le n j i ≤ 268435457
  | 0, i => by
    simp only [lwR]
    unfold va_up
    split
    · omega
    · exact h i
  | j + 1, i => by
    simp only [lwR]
    unfold va_up
    split
    · exact Nat.le_trans (lwC_le n) (by decide)
    · exact lwR_le h j i
def cfC (Nb Lc F : Nat → Nat) (n wd a o : Nat) : Nat := if wd < popc (bagF Nb n a o) then 268435457 else Lc (bagF Nb n a o) + F (o ||| 2 ^ a)
theorem cfC_w {Nb Lc F : Nat → Nat} {n wd a o : Nat} (h : wd < popc (bagF Nb n a o)) : cfC Nb Lc F n wd a o = 268435457 := by unfold cfC; rw [if_pos h]
theorem cfC_n {Nb Lc F : Nat → Nat} {n wd a o : Nat} (h : ¬ wd < popc (bagF Nb n a o)) : cfC Nb Lc F n wd a o = Lc (bagF Nb n a o) + F (o ||| 2 ^ a) := by unfold cfC; rw [if_neg h]
theorem cfC_ge {Nb Lc F : Nat → Nat} {n wd a o B : Nat} (h : B ≤ F (o ||| 2 ^ a)) (hB : B ≤ 268435457) : B ≤ cfC Nb Lc F n wd a o := by
  unfold cfC
  split <;> omega
theorem cfC_le {Nb Lc F : Nat → Nat} {n wd a o : Nat} (hL : ∀ i, Lc i ≤ 16777216) (h : F (o ||| 2 ^ a) ≤ 268435457) : cfC Nb Lc F n wd a o ≤ 285212673 := by
  have := hL (bagF Nb n a o)
  unfold cfC
  split <;> omega
def ccC (Nb Lc F : Nat → Nat) (n wd out : Nat) : Nat → Nat
  | 0 => 268435457
  | a + 1 => if out.testBit a then ccC Nb Lc F n wd out a else min (ccC Nb Lc F n wd out a) (cfC Nb Lc F n wd a out)
theorem ccC_o {L Lc F : Nat → Nat} {n wd out a : Nat} (h : out.testBit a = true) : ccC L Lc F n wd out (a + 1) = ccC L Lc F n wd out a := by simp [ccC, h]
theorem ccC_i {L Lc F : Nat → Nat} {n wd out a : Nat} (h : out.testBit a = false) : ccC L Lc F n wd out (a + 1) = min (ccC L Lc F n wd out a) (cfC L Lc F n wd a out) := by simp [ccC, h]
theorem ccC_le {L Lc F : Nat → Nat} {n wd out : Nat} : ∀ a, ccC L Lc F n wd out a ≤ 268435457
  | 0 => Nat.le_refl _
  | a + 1 => by
    have := ccC_le (L := L) (Lc := Lc) (F := F) (n := n) (wd := wd) (out := out) a
    cases h : out.testBit a
    · rw [ccC_i h]; omega
    · rw [ccC_o h]; exact this
def ccR (L Lc Le : Nat → Nat) (n wd : Nat) : Nat → (Nat → Nat)
  | 0 => va_up Le (2 ^ n - 1) 1
  | j + 1 => va_up (ccR L Lc Le n wd j) (2 ^ n - 1 - 1 - j) (ccC L Lc (ccR L Lc Le n wd j) n wd (2 ^ n - 1 - 1 - j) n)
theorem ccR_le {L Lc Le : Nat → Nat} {n wd : Nat} (h : ∀ i, Le i ≤ 268435457) : ∀ j i, ccR L Lc Le n wd j i ≤ 268435457
  | 0, i => by
    simp only [ccR]
    unfold va_up
    split
    · omega
    · exact h i
  | j + 1, i => by
    simp only [ccR]
    unfold va_up
    split
    · exact ccC_le n
    · exact ccR_le h j i
def cdC (Nb Lc F : Nat → Nat) (n wd o a : Nat) : Bool := !o.testBit a && decide (cfC Nb Lc F n wd a o = F o)
/-- which names the best order takes: what is gone, and the row -/
def fwC (Nb Lc F Fo : Nat → Nat) (n wd : Nat) : Nat → Nat × (Nat → Nat)
  | 0 => (0, Fo)
  | i + 1 => if fn5 (cdC Nb Lc F n wd (fwC Nb Lc F Fo n wd i).1) n 0 < n then ((fwC Nb Lc F Fo n wd i).1 ||| 2 ^ fn5 (cdC Nb Lc F n wd (fwC Nb Lc F Fo n wd i).1) n 0, va_up (fwC Nb Lc F Fo n wd i).2 i (fn5 (cdC Nb Lc F n wd (fwC Nb Lc F Fo n wd i).1) n 0)) else fwC Nb Lc F Fo n wd i
theorem fwC_t {Nb Lc F Fo : Nat → Nat} {n wd i : Nat} (h : fn5 (cdC Nb Lc F n wd (fwC Nb Lc F Fo n wd i).1) n 0 < n) : fwC Nb Lc F Fo n wd (i + 1) = ((fwC Nb Lc F Fo n wd i).1 ||| 2 ^ fn5 (cdC Nb Lc F n wd (fwC Nb Lc F Fo n wd i).1) n 0, va_up (fwC Nb Lc F Fo n wd i).2 i (fn5 (cdC Nb Lc F n wd (fwC Nb Lc F Fo n wd i).1) n 0)) := by
  simp only [fwC, if_pos h]
theorem fwC_f {Nb Lc F Fo : Nat → Nat} {n wd i : Nat} (h : ¬ fn5 (cdC Nb Lc F n wd (fwC Nb Lc F Fo n wd i).1) n 0 < n) : fwC Nb Lc F Fo n wd (i + 1) = fwC Nb Lc F Fo n wd i := by
  simp only [fwC, if_neg h]
-- the sequence
/-- what is gone behind i names of an order -/
def goF (Od : Nat → Nat) : Nat → Nat
  | 0 => 0
  | i + 1 => goF Od i ||| 2 ^ Od i
def bgC (Nb : Nat → Nat) (n : Nat) (Od : Nat → Nat) (i : Nat) : Nat := bagF Nb n (Od i) (goF Od i)
def flC (Nb : Nat → Nat) (n : Nat) (Od : Nat → Nat) : Nat → Nat
  | 0 => 0
  | i + 1 => flC Nb n Od i + fillS Nb n (bgC Nb n Od i) (goF Od i) n / 2
theorem mI_ne {a b : Nat} (ha : a < 2 ^ 30) (hb : b < 2 ^ 30) (h : a ≠ b) : mI a ≠ mI b := fun q => h (by
  have := congrArg Int32.toInt q
  rw [mI_toInt ha, mI_toInt hb] at this
  omega)
theorem orb {o a : Nat} (h : o ||| 2 ^ a = o) : o.testBit a = true := by
  cases q : o.testBit a
  · exact absurd h (or_ne q)
  · rfl
theorem orbn {o a : Nat} (h : ¬ o ||| 2 ^ a = o) : o.testBit a = false := by
  cases q : o.testBit a
  · rfl
  · refine absurd (Nat.eq_of_testBit_eq fun i => ?_) h
    rw [Nat.testBit_or, Nat.testBit_two_pow]
    by_cases hi : a = i
    · subst hi
      simp [q]
    · simp [hi]
theorem mI_p {k : Nat} (h : k ≠ 0) : mI k = nI (k - 1) := by
  obtain ⟨j, rfl⟩ : ∃ j, k = j + 1 := ⟨k - 1, by omega⟩
  exact mI_s j
/-- which names stand at the first i places -/
def poF (Pl : Nat → Nat) : Nat → Nat
  | 0 => 0
  | i + 1 => if Pl i = 0 then poF Pl i else poF Pl i ||| 2 ^ (Pl i - 1)
theorem poF_0 {Pl : Nat → Nat} {i : Nat} (h : Pl i = 0) : poF Pl (i + 1) = poF Pl i := by simp [poF, h]
theorem poF_1 {Pl : Nat → Nat} {i : Nat} (h : Pl i ≠ 0) : poF Pl (i + 1) = poF Pl i ||| 2 ^ (Pl i - 1) := by simp [poF, h]
/-- the later place whose name is in a bag, plus one, or nothing -/
def parF (b : Nat) (Od : Nat → Nat) : Nat → Nat → Nat
  | 0, _ => 0
  | k + 1, j => if b.testBit (Od j) then j + 1 else parF b Od k (j + 1)
theorem parF_t {b : Nat} {Od : Nat → Nat} {k j : Nat} (h : b.testBit (Od j) = true) : parF b Od (k + 1) j = j + 1 := by simp [parF, h]
theorem parF_f {b : Nat} {Od : Nat → Nat} {k j : Nat} (h : b.testBit (Od j) = false) : parF b Od (k + 1) j = parF b Od k (j + 1) := by simp [parF, h]
/-- what a name costs -/
def coC (Nb V : Nat → Nat) (n kd gone a : Nat) : Nat := if kd = 2 then popc (bagF Nb n a gone) else if kd = 3 then fillS Nb n (bagF Nb n a gone) gone n / 2 else cellsF V (bagF Nb n a gone) n
theorem coC_le {Nb V : Nat → Nat} {n kd gone a : Nat} (hn : n ≤ 12) (hN : ∀ i, Nb i < 4096) (hV : ∀ j, V j ≤ 4) (ha : a < n) : coC Nb V n kd gone a ≤ 16777216 := by
  have hb : bagF Nb n a gone < 4096 := bagF_lt hN (by omega)
  have h1 := popc_le _ hb
  have h2 := fillS_le (Nb := Nb) (n := n) (gone := gone) hb n
  have h3 := cellsF_b hV (bagF Nb n a gone) hn
  unfold coC
  split
  · omega
  · split
    · omega
    · exact h3
def chC (co : Nat → Nat) (gone : Nat) : Nat → Nat × Nat
  | 0 => (0, 2147483647)
  | i + 1 => if gone.testBit i then chC co gone i else if co i < (chC co gone i).2 then (i, co i) else chC co gone i
theorem chC_o {co : Nat → Nat} {gone i : Nat} (h : gone.testBit i = true) : chC co gone (i + 1) = chC co gone i := by simp [chC, h]
theorem chC_t {co : Nat → Nat} {gone i : Nat} (h : gone.testBit i = false) (h2 : co i < (chC co gone i).2) : chC co gone (i + 1) = (i, co i) := by simp [chC, h, h2]
theorem chC_f {co : Nat → Nat} {gone i : Nat} (h : gone.testBit i = false) (h2 : ¬ co i < (chC co gone i).2) : chC co gone (i + 1) = chC co gone i := by simp [chC, h, h2]
theorem chC_le {co : Nat → Nat} {gone : Nat} : ∀ i, (chC co gone i).1 ≤ i ∧ (i ≠ 0 → (chC co gone i).1 < i)
  | 0 => ⟨Nat.le_refl 0, fun h => absurd rfl h⟩
  | i + 1 => by
    have ih := chC_le (co := co) (gone := gone) i
    cases h : gone.testBit i
    · by_cases h2 : co i < (chC co gone i).2
      · rw [chC_t h h2]; exact ⟨Nat.le_succ _, fun _ => Nat.lt_succ_self _⟩
      · rw [chC_f h h2]; omega
    · rw [chC_o h]; omega
/-- the name at place i by a rule, when others are gone -/
def ctC (Nb V Pl Fo : Nat → Nat) (n kd i gone : Nat) : Nat := if kd = 0 then i else if kd = 1 then Pl i - 1 else if kd = 5 then Fo i else (chC (coC Nb V n kd gone) gone n).1
theorem ctC_lt {Nb V Pl Fo : Nat → Nat} {n kd i gone : Nat} (hi : i < n) (h1 : kd = 1 → ∀ i, i < n → 0 < Pl i ∧ Pl i ≤ n) (h5 : kd = 5 → ∀ i, i < n → Fo i < n) : ctC Nb V Pl Fo n kd i gone < n := by
  unfold ctC
  by_cases k0 : kd = 0
  · rw [if_pos k0]; exact hi
  · rw [if_neg k0]
    by_cases k1 : kd = 1
    · rw [if_pos k1]
      have := h1 k1 i hi
      omega
    · rw [if_neg k1]
      by_cases k5 : kd = 5
      · rw [if_pos k5]; exact h5 k5 i hi
      · rw [if_neg k5]; exact (chC_le n).2 (by omega)
theorem goF_up {F : Nat → Nat} {i x : Nat} : ∀ k, k ≤ i → goF (va_up F i x) k = goF F k
  | 0, _ => rfl
  | k + 1, h => by
    simp only [goF]
    rw [goF_up k (by omega), va_up_ne _ _ (by omega)]
theorem goF_lt {F : Nat → Nat} {n : Nat} : ∀ k, (∀ j, j < k → F j < n) → goF F k < 2 ^ n
  | 0, _ => Nat.pow_pos (by decide)
  | k + 1, h => or_lt2 (goF_lt k (fun j hj => h j (by omega))) (pw_lt2 (h k (by omega)))
/-- the row of an order by a rule -/
def arC (ct : Nat → Nat → Nat) (Od : Nat → Nat) : Nat → (Nat → Nat)
  | 0 => Od
  | i + 1 => va_up (arC ct Od i) i (ct i (goF (arC ct Od i) i))
/-- kind, width, fill, cells, most cells, order, bags -/
abbrev sqT : Type := Nat × Nat × Nat × Nat × Nat × (Nat → Nat) × (Nat → Nat)
def tkZ (Nb V : Nat → Nat) (n kd : Nat) (Od Bg : Nat → Nat) : sqT := (kd, wdF (bgC Nb n Od) n, flC Nb n Od n, sumF (fun i => cellsF V (bgC Nb n Od i) n) n, mcF V (bgC Nb n Od) n n, Od, rowF Bg (bgC Nb n Od) n)
def srZ (Nb V : Nat → Nat) (n kn : Nat) (t : sqT) : sqT := if kn = 0 then tkZ Nb V n 0 (rowF t.2.2.2.2.2.1 (fun j => j) n) t.2.2.2.2.2.2 else t
theorem rowF_same {f g : Nat → Nat} {i : Nat} (h : ∀ j, j < i → f j = g j) : rowF f g i = f := by
  funext j
  unfold rowF
  by_cases q : j < i
  · rw [if_pos q, h j q]
  · rw [if_neg q]
def clR (V Lc : Nat → Nat) (n : Nat) : Nat → Nat := rowF Lc (fun j => cellsF V j n) (2 ^ n)
theorem clR_le {V Lc : Nat → Nat} {n : Nat} (hn : n ≤ 12) (hV : ∀ j, V j ≤ 4) (h : ∀ i, Lc i ≤ 16777216) : ∀ i, clR V Lc n i ≤ 16777216 := fun i => by
  unfold clR rowF
  split
  · exact cellsF_b hV i hn
  · exact h i
/-- the row of the best order, as the search finds it -/
def fdR (V Nb Lc Le Fo : Nat → Nat) (n : Nat) : Nat → Nat := (fwC Nb (clR V Lc n) (ccR Nb (clR V Lc n) (lwR Nb Le n (2 ^ n - 1)) n (lwR Nb Le n (2 ^ n - 1) 0) (2 ^ n - 1)) Fo n (lwR Nb Le n (2 ^ n - 1) 0) n).2
