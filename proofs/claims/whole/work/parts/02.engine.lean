-- ENGINE: short rows over the kit's rows. zT = the words of every method (the tables'); zw = a world with all that is known of it.
def zT : List Cond := lw_tbl.filter goodWord
theorem zT_good : ∀ w ∈ zT, (w.onTables && w.keeps) = true ∨ ∃ ty, w = .arrayClass ty := fun _ hw => good_of_word (List.mem_filter.mp hw).2
theorem zin {w : Cond} (h : w ∈ lw_tbl) (hg : goodWord w = true) : w ∈ zT := List.mem_filter.mpr ⟨h, hg⟩
theorem uz {C : String} {T : u_T} {N : Nat} (h : ∀ w ∈ u_ws C T N, w ∈ lw_tbl) : ∀ w ∈ u_ws C T N, w ∈ zT := by
  intro w hw
  refine zin (h w hw) ?_
  obtain ⟨k, -, rfl⟩ := List.mem_map.mp hw
  unfold u_lay
  split <;> rfl
/-- D.1, D.2 as the kit's; the array classes: int[] 0, long[] 1, Factor[] 2 -/
abbrev zG : Type := ((Nat → ClassId) × (Nat → Nat → Nat)) × (Nat → ClassId)
abbrev zty (G : zG) : List (ClassId × FieldType) := [(G.2 0, .int), (G.2 1, .long), (G.2 2, .object "TableOrders$Factor")]
abbrev zO (ci : Nat) (fs : List Value) : va_E := .inr (ci, fs)
abbrev zI (G : zG) (n : Nat) (f : Nat → Int32) : va_E := .inl (G.2 0, n, .inl f)
abbrev zL (G : zG) (n : Nat) (f : Nat → Int64) : va_E := .inl (G.2 1, n, .inr (.inl f))
abbrev zF (G : zG) (n : Nat) (f : Nat → Option Nat) : va_E := .inl (G.2 2, n, .inr (.inr (.inr (.inr f))))
section ZE
variable {p : Program} {l : Launch} {e : Env} {R : Room} {s : State} {m : MethodId} {args : Array Value} {below : List Frame} {meth : Method} {c : Code} {H : Heap} {locs : List Loc} {cells slots : Nat} {Q : State → Prop}
variable {cc : ByteArray} {pc : Nat} {ls : Array Slot} {rest : List Value} {G : zG} {A : Nat → Prop} {a : Nat} {ws ws' : va_W}
-- numbers
theorem z_iconst (hx : p.tables.exec = Jvm.exec) (hb : c.code = cc) {n : Int} {v : Int32} (hdg : decode cc pc = .ok (.iconst n, 1)) (hv : Int32.ofInt n = v) (k : W p l e R s m args below meth c H locs cells slots Q (F0 m (pc + 1) ls (.int v :: rest))) : W p l e R s m args below meth c H locs cells slots Q (F0 m pc ls rest) := lv_iconst hx hb hdg hv k
theorem z_addN (hx : p.tables.exec = Jvm.exec) (hb : c.code = cc) {x y : Nat} (hdg : decode cc pc = .ok (.iadd, 1)) (k : W p l e R s m args below meth c H locs cells slots Q (F0 m (pc + 1) ls (.int (nI (x + y)) :: rest))) : W p l e R s m args below meth c H locs cells slots Q (F0 m pc ls (.int (nI y) :: .int (nI x) :: rest)) :=
  lv_iadd hx hb hdg (by rw [nI_add]; exact k)
theorem z_mulN (hx : p.tables.exec = Jvm.exec) (hb : c.code = cc) {x y : Nat} (hdg : decode cc pc = .ok (.imul, 1)) (k : W p l e R s m args below meth c H locs cells slots Q (F0 m (pc + 1) ls (.int (nI (x * y)) :: rest))) : W p l e R s m args below meth c H locs cells slots Q (F0 m pc ls (.int (nI y) :: .int (nI x) :: rest)) :=
  lv_imul hx hb hdg (by rw [pk_mul]; exact k)
theorem z_subN (hx : p.tables.exec = Jvm.exec) (hb : c.code = cc) {x y : Nat} (h : y ≤ x) (hdg : decode cc pc = .ok (.isub, 1)) (k : W p l e R s m args below meth c H locs cells slots Q (F0 m (pc + 1) ls (.int (nI (x - y)) :: rest))) : W p l e R s m args below meth c H locs cells slots Q (F0 m pc ls (.int (nI y) :: .int (nI x) :: rest)) :=
  lv_isub hx hb hdg (by rw [pk_sub h]; exact k)
theorem z_divN (hx : p.tables.exec = Jvm.exec) (hb : c.code = cc) {x y : Nat} (h : x < 2 ^ 31) (h0 : 0 < y) (hy : y < 2 ^ 31) (hdg : decode cc pc = .ok (.idiv, 1)) (k : W p l e R s m args below meth c H locs cells slots Q (F0 m (pc + 1) ls (.int (nI (x / y)) :: rest))) : W p l e R s m args below meth c H locs cells slots Q (F0 m pc ls (.int (nI y) :: .int (nI x) :: rest)) :=
  lv_idiv hx hb hdg (nI_ne0 h0 hy) (by rw [pk_div h h0 hy]; exact k)
theorem z_remN (hx : p.tables.exec = Jvm.exec) (hb : c.code = cc) {x y : Nat} (h : x < 2 ^ 31) (h0 : 0 < y) (hy : y < 2 ^ 31) (hdg : decode cc pc = .ok (.irem, 1)) (k : W p l e R s m args below meth c H locs cells slots Q (F0 m (pc + 1) ls (.int (nI (x % y)) :: rest))) : W p l e R s m args below meth c H locs cells slots Q (F0 m pc ls (.int (nI y) :: .int (nI x) :: rest)) :=
  lv_irem hx hb hdg (nI_ne0 h0 hy) (by rw [pk_rem h h0 hy]; exact k)
theorem zb_and (a b : Nat) : nI a &&& nI b = nI (a &&& b) := by
  apply Int32.toBitVec_inj.1
  show BitVec.ofNat 32 a &&& BitVec.ofNat 32 b = BitVec.ofNat 32 (a &&& b)
  apply BitVec.eq_of_getLsbD_eq
  intro i hi
  simp [hi]
theorem zb_or (a b : Nat) : nI a ||| nI b = nI (a ||| b) := by
  apply Int32.toBitVec_inj.1
  show BitVec.ofNat 32 a ||| BitVec.ofNat 32 b = BitVec.ofNat 32 (a ||| b)
  apply BitVec.eq_of_getLsbD_eq
  intro i hi
  simp [hi]
theorem zb_xor (a b : Nat) : nI a ^^^ nI b = nI (a ^^^ b) := by
  apply Int32.toBitVec_inj.1
  show BitVec.ofNat 32 a ^^^ BitVec.ofNat 32 b = BitVec.ofNat 32 (a ^^^ b)
  apply BitVec.eq_of_getLsbD_eq
  intro i hi
  simp [hi]
theorem zb_sh : ∀ i, i < 32 → (nI 1) <<< (nI i &&& 31) = nI (2 ^ i) := by decide +kernel
theorem z_andN (hx : p.tables.exec = Jvm.exec) (hb : c.code = cc) {x y : Nat} (hdg : decode cc pc = .ok (.iand, 1)) (k : W p l e R s m args below meth c H locs cells slots Q (F0 m (pc + 1) ls (.int (nI (x &&& y)) :: rest))) : W p l e R s m args below meth c H locs cells slots Q (F0 m pc ls (.int (nI y) :: .int (nI x) :: rest)) :=
  lv_iand hx hb hdg (by rw [zb_and]; exact k)
theorem z_orN (hx : p.tables.exec = Jvm.exec) (hb : c.code = cc) {x y : Nat} (hdg : decode cc pc = .ok (.ior, 1)) (k : W p l e R s m args below meth c H locs cells slots Q (F0 m (pc + 1) ls (.int (nI (x ||| y)) :: rest))) : W p l e R s m args below meth c H locs cells slots Q (F0 m pc ls (.int (nI y) :: .int (nI x) :: rest)) :=
  lv_ior hx hb hdg (by rw [zb_or]; exact k)
theorem z_xorN (hx : p.tables.exec = Jvm.exec) (hb : c.code = cc) {x y : Nat} (hdg : decode cc pc = .ok (.ixor, 1)) (k : W p l e R s m args below meth c H locs cells slots Q (F0 m (pc + 1) ls (.int (nI (x ^^^ y)) :: rest))) : W p l e R s m args below meth c H locs cells slots Q (F0 m pc ls (.int (nI y) :: .int (nI x) :: rest)) :=
  lv_ixor hx hb hdg (by rw [zb_xor]; exact k)
theorem z_shl1 (hx : p.tables.exec = Jvm.exec) (hb : c.code = cc) {y : Nat} (h : y < 32) (hdg : decode cc pc = .ok (.ishl, 1)) (k : W p l e R s m args below meth c H locs cells slots Q (F0 m (pc + 1) ls (.int (nI (2 ^ y)) :: rest))) : W p l e R s m args below meth c H locs cells slots Q (F0 m pc ls (.int (nI y) :: .int (nI 1) :: rest)) :=
  lv_ishl hx hb hdg (by rw [zb_sh y h]; exact k)
theorem z_iinc {i nL k : Nat} {n : Int} {d x : Nat} {lv lv' : List (Nat × Value)} (hx : p.tables.exec = Jvm.exec) (hb : c.code = cc) (hdg : decode cc pc = .ok (.iinc i n, 3)) (hl0 : lv_has ls nL lv) (hk : lv[k]? = some (i, .int (nI x))) (hd : Int32.ofInt n = nI d) (hn : i < nL) (hl : (i, Value.int (nI (x + d))) :: lv.filter (fun q => !(q.1 == i) && !(q.1 + 1 == i && q.2.category == 2)) = lv')
    (kk : ∀ ls' : Array Slot, lv_has ls' nL lv' → W p l e R s m args below meth c H locs cells slots Q (F0 m (pc + 3) ls' rest)) : W p l e R s m args below meth c H locs cells slots Q (F0 m pc ls rest) :=
  lv_iinc (v := nI (x + d)) hx hb hdg hl0 hk (by rw [hd, nI_add]) hn hl kk
-- branches on counted numbers
theorem z_icmpge (hx : p.tables.exec = Jvm.exec) (hb : c.code = cc) {x y : Nat} {off : Int} {tgt : Nat} (h1 : x < 2 ^ 31) (h2 : y < 2 ^ 31) (hdg : decode cc pc = .ok (.if_icmp .ge off, 3)) (ht : (pc : Int) + off = (tgt : Int))
    (kt : y ≤ x → W p l e R s m args below meth c H locs cells slots Q (F0 m tgt ls rest)) (kf : x < y → W p l e R s m args below meth c H locs cells slots Q (F0 m (pc + 3) ls rest)) : W p l e R s m args below meth c H locs cells slots Q (F0 m pc ls (.int (nI y) :: .int (nI x) :: rest)) :=
  lv_icmp_ge hx hb hdg ht (fun q => kt ((nI_leI h2 h1).mp q)) (fun q => kf (Nat.lt_of_not_le (fun z => q ((nI_leI h2 h1).mpr z))))
theorem z_icmplt (hx : p.tables.exec = Jvm.exec) (hb : c.code = cc) {x y : Nat} {off : Int} {tgt : Nat} (h1 : x < 2 ^ 31) (h2 : y < 2 ^ 31) (hdg : decode cc pc = .ok (.if_icmp .lt off, 3)) (ht : (pc : Int) + off = (tgt : Int))
    (kt : x < y → W p l e R s m args below meth c H locs cells slots Q (F0 m tgt ls rest)) (kf : y ≤ x → W p l e R s m args below meth c H locs cells slots Q (F0 m (pc + 3) ls rest)) : W p l e R s m args below meth c H locs cells slots Q (F0 m pc ls (.int (nI y) :: .int (nI x) :: rest)) :=
  lv_icmp_lt hx hb hdg ht (fun q => kt ((nI_ltI h1 h2).mp q)) (fun q => kf (Nat.le_of_not_lt (fun z => q ((nI_ltI h1 h2).mpr z))))
theorem z_icmple (hx : p.tables.exec = Jvm.exec) (hb : c.code = cc) {x y : Nat} {off : Int} {tgt : Nat} (h1 : x < 2 ^ 31) (h2 : y < 2 ^ 31) (hdg : decode cc pc = .ok (.if_icmp .le off, 3)) (ht : (pc : Int) + off = (tgt : Int))
    (kt : x ≤ y → W p l e R s m args below meth c H locs cells slots Q (F0 m tgt ls rest)) (kf : y < x → W p l e R s m args below meth c H locs cells slots Q (F0 m (pc + 3) ls rest)) : W p l e R s m args below meth c H locs cells slots Q (F0 m pc ls (.int (nI y) :: .int (nI x) :: rest)) :=
  lv_icmp_le hx hb hdg ht (fun q => kt ((nI_leI h1 h2).mp q)) (fun q => kf (Nat.lt_of_not_le (fun z => q ((nI_leI h1 h2).mpr z))))
theorem z_icmpgt (hx : p.tables.exec = Jvm.exec) (hb : c.code = cc) {x y : Nat} {off : Int} {tgt : Nat} (h1 : x < 2 ^ 31) (h2 : y < 2 ^ 31) (hdg : decode cc pc = .ok (.if_icmp .gt off, 3)) (ht : (pc : Int) + off = (tgt : Int))
    (kt : y < x → W p l e R s m args below meth c H locs cells slots Q (F0 m tgt ls rest)) (kf : x ≤ y → W p l e R s m args below meth c H locs cells slots Q (F0 m (pc + 3) ls rest)) : W p l e R s m args below meth c H locs cells slots Q (F0 m pc ls (.int (nI y) :: .int (nI x) :: rest)) :=
  lv_icmp_gt hx hb hdg ht (fun q => kt ((nI_ltI h2 h1).mp q)) (fun q => kf (Nat.le_of_not_lt (fun z => q ((nI_ltI h2 h1).mpr z))))
theorem z_icmpeq (hx : p.tables.exec = Jvm.exec) (hb : c.code = cc) {x y : Nat} {off : Int} {tgt : Nat} (h1 : x < 2 ^ 31) (h2 : y < 2 ^ 31) (hdg : decode cc pc = .ok (.if_icmp .eq off, 3)) (ht : (pc : Int) + off = (tgt : Int))
    (kt : x = y → W p l e R s m args below meth c H locs cells slots Q (F0 m tgt ls rest)) (kf : x ≠ y → W p l e R s m args below meth c H locs cells slots Q (F0 m (pc + 3) ls rest)) : W p l e R s m args below meth c H locs cells slots Q (F0 m pc ls (.int (nI y) :: .int (nI x) :: rest)) :=
  lv_icmp_eq hx hb hdg ht (fun q => kt ((nI_eq h1 h2).mp q)) (fun q => kf (fun z => q ((nI_eq h1 h2).mpr z)))
theorem z_icmpne (hx : p.tables.exec = Jvm.exec) (hb : c.code = cc) {x y : Nat} {off : Int} {tgt : Nat} (h1 : x < 2 ^ 31) (h2 : y < 2 ^ 31) (hdg : decode cc pc = .ok (.if_icmp .ne off, 3)) (ht : (pc : Int) + off = (tgt : Int))
    (kt : x ≠ y → W p l e R s m args below meth c H locs cells slots Q (F0 m tgt ls rest)) (kf : x = y → W p l e R s m args below meth c H locs cells slots Q (F0 m (pc + 3) ls rest)) : W p l e R s m args below meth c H locs cells slots Q (F0 m pc ls (.int (nI y) :: .int (nI x) :: rest)) :=
  lv_icmp_ne hx hb hdg ht (fun q => kt (fun z => q ((nI_eq h1 h2).mpr z))) (fun q => kf ((nI_eq h1 h2).mp q))
theorem z_ifeqN (hx : p.tables.exec = Jvm.exec) (hb : c.code = cc) {x : Nat} {off : Int} {tgt : Nat} (h1 : x < 2 ^ 31) (hdg : decode cc pc = .ok (.ifCond .eq off, 3)) (ht : (pc : Int) + off = (tgt : Int))
    (kt : x = 0 → W p l e R s m args below meth c H locs cells slots Q (F0 m tgt ls rest)) (kf : x ≠ 0 → W p l e R s m args below meth c H locs cells slots Q (F0 m (pc + 3) ls rest)) : W p l e R s m args below meth c H locs cells slots Q (F0 m pc ls (.int (nI x) :: rest)) :=
  lv_if_eq hx hb hdg ht (fun q => kt ((nI_eq h1 (by decide)).mp (q.trans nI_0.symm))) (fun q => kf (fun z => q (by rw [z, nI_0])))
theorem z_ifneN (hx : p.tables.exec = Jvm.exec) (hb : c.code = cc) {x : Nat} {off : Int} {tgt : Nat} (h1 : x < 2 ^ 31) (hdg : decode cc pc = .ok (.ifCond .ne off, 3)) (ht : (pc : Int) + off = (tgt : Int))
    (kt : x ≠ 0 → W p l e R s m args below meth c H locs cells slots Q (F0 m tgt ls rest)) (kf : x = 0 → W p l e R s m args below meth c H locs cells slots Q (F0 m (pc + 3) ls rest)) : W p l e R s m args below meth c H locs cells slots Q (F0 m pc ls (.int (nI x) :: rest)) :=
  lv_if_ne hx hb hdg ht (fun q => kt (fun z => q (by rw [z, nI_0]))) (fun q => kf ((nI_eq h1 (by decide)).mp (q.trans nI_0.symm)))
-- a bit of a set
theorem zb_bit {S i : Nat} (hS : S < 2 ^ 31) : nI (S &&& 2 ^ i) = 0 ↔ S.testBit i = false := by
  have hle : S &&& 2 ^ i < 2 ^ 31 := Nat.lt_of_le_of_lt Nat.and_le_left hS
  rw [← nI_0, nI_eq hle (by decide)]
  constructor
  · intro h
    have h2 : (S &&& 2 ^ i).testBit i = false := by rw [h]; exact Nat.zero_testBit i
    rw [Nat.testBit_and, Nat.testBit_two_pow] at h2
    simpa using h2
  · intro h
    apply Nat.eq_of_testBit_eq
    intro j
    rw [Nat.testBit_and, Nat.testBit_two_pow, Nat.zero_testBit]
    by_cases hj : i = j
    · subst hj
      rw [h]
      rfl
    · simp [hj]
theorem z_ifeqbit (hx : p.tables.exec = Jvm.exec) (hb : c.code = cc) {S i : Nat} {off : Int} {tgt : Nat} (hS : S < 2 ^ 31) (hdg : decode cc pc = .ok (.ifCond .eq off, 3)) (ht : (pc : Int) + off = (tgt : Int))
    (kt : S.testBit i = false → W p l e R s m args below meth c H locs cells slots Q (F0 m tgt ls rest)) (kf : S.testBit i = true → W p l e R s m args below meth c H locs cells slots Q (F0 m (pc + 3) ls rest)) : W p l e R s m args below meth c H locs cells slots Q (F0 m pc ls (.int (nI (S &&& 2 ^ i)) :: rest)) :=
  lv_if_eq hx hb hdg ht (fun q => kt ((zb_bit hS).mp q)) (fun q => kf (by cases h : S.testBit i; exact absurd ((zb_bit hS).mpr h) q; rfl))
theorem z_ifnebit (hx : p.tables.exec = Jvm.exec) (hb : c.code = cc) {S i : Nat} {off : Int} {tgt : Nat} (hS : S < 2 ^ 31) (hdg : decode cc pc = .ok (.ifCond .ne off, 3)) (ht : (pc : Int) + off = (tgt : Int))
    (kt : S.testBit i = true → W p l e R s m args below meth c H locs cells slots Q (F0 m tgt ls rest)) (kf : S.testBit i = false → W p l e R s m args below meth c H locs cells slots Q (F0 m (pc + 3) ls rest)) : W p l e R s m args below meth c H locs cells slots Q (F0 m pc ls (.int (nI (S &&& 2 ^ i)) :: rest)) :=
  lv_if_ne hx hb hdg ht (fun q => kt (by cases h : S.testBit i; exact absurd ((zb_bit hS).mpr h) q; rfl)) (fun q => kf ((zb_bit hS).mp q))
-- truths
noncomputable def bI (P : Prop) : Int32 := @ite Int32 P (Classical.propDecidable P) 1 0
theorem bI_0 {P : Prop} : bI P = 0 ↔ ¬ P := by
  unfold bI
  by_cases h : P <;> simp [h]
theorem z_ifeqB (hx : p.tables.exec = Jvm.exec) (hb : c.code = cc) {P : Prop} {off : Int} {tgt : Nat} (hdg : decode cc pc = .ok (.ifCond .eq off, 3)) (ht : (pc : Int) + off = (tgt : Int))
    (kt : ¬ P → W p l e R s m args below meth c H locs cells slots Q (F0 m tgt ls rest)) (kf : P → W p l e R s m args below meth c H locs cells slots Q (F0 m (pc + 3) ls rest)) : W p l e R s m args below meth c H locs cells slots Q (F0 m pc ls (.int (bI P) :: rest)) :=
  lv_if_eq hx hb hdg ht (fun q => kt (bI_0.mp q)) (fun q => kf (Classical.byContradiction (fun z => q (bI_0.mpr z))))
theorem z_ifneB (hx : p.tables.exec = Jvm.exec) (hb : c.code = cc) {P : Prop} {off : Int} {tgt : Nat} (hdg : decode cc pc = .ok (.ifCond .ne off, 3)) (ht : (pc : Int) + off = (tgt : Int))
    (kt : P → W p l e R s m args below meth c H locs cells slots Q (F0 m tgt ls rest)) (kf : ¬ P → W p l e R s m args below meth c H locs cells slots Q (F0 m (pc + 3) ls rest)) : W p l e R s m args below meth c H locs cells slots Q (F0 m pc ls (.int (bI P) :: rest)) :=
  lv_if_ne hx hb hdg ht (fun q => kt (Classical.byContradiction (fun z => q (bI_0.mpr z)))) (fun q => kf (bI_0.mp q))
end ZE
-- reading: the tables, and the cells that are held
/-- what the tables say, the good words aside -/
def zKK (G : zG) (s : State) : Prop := va_K G.1 vwCl (zty G) s ∧ zKn s
theorem zKK.same {G : zG} {u U : State} (h : u.vm = U.vm) (k : zKK G u) : zKK G U := ⟨va_K.moved (h ▸ Vm.Alike.refl u.vm) k.1, k.2.same h⟩
theorem zKK.warm {G : zG} {s U : State} (hW : s.WarmedH U.vm) (k : zKK G s) : zKK G U := ⟨va_K.moved hW.alike k.1, k.2.warm hW⟩
def zr (G : zG) (s : State) (ws : va_W) (H : Heap) : Prop := zKK G s ∧ va_P G.1 vwCl ws H
def zw (G : zG) (A : Nat → Prop) (s : State) (ws : va_W) (H : Heap) (locs : List Loc) : Prop :=
  zr G s ws H ∧ va_D A ws ∧ va_S A s.heap H locs ∧ ∀ q, s.heap.size ≤ q → A q
theorem zfm {ws ws' : va_W} {is : List Nat} (hs : is.map (fun i => ws[i]?) = ws'.map some) : is.filterMap (fun i => ws[i]?) = ws' := by
  have e1 : (is.map (fun i => ws[i]?)).filterMap id = (ws'.map some).filterMap id := by rw [hs]
  rw [List.filterMap_map, List.filterMap_map] at e1
  simpa [Function.comp_def] using e1
theorem zr.sub {G : zG} {s : State} {ws ws' : va_W} {H : Heap} (r : zr G s ws H) (is : List Nat) (hs : is.filterMap (fun i => ws[i]?) = ws') : zr G s ws' H := ⟨r.1, r.2.sub is hs⟩
theorem zw.perm {G : zG} {A : Nat → Prop} {s : State} {ws ws' : va_W} {H : Heap} {locs : List Loc} (w : zw G A s ws H locs) (is : List Nat) (hn : va_nd is = true) (hs : is.map (fun i => ws[i]?) = ws'.map some) : zw G A s ws' H locs :=
  ⟨⟨w.1.1, w.1.2.sub is (zfm hs)⟩, w.2.1.sub is hn hs, w.2.2.1, w.2.2.2⟩
theorem zw.eq {G : zG} {A : Nat → Prop} {s : State} {ws ws' : va_W} {H : Heap} {locs : List Loc} (w : zw G A s ws H locs) (h : ws = ws') : zw G A s ws' H locs := h ▸ w
section ZA
variable {p : Program} {l : Launch} {e : Env} {R : Room} {s : State} {m : MethodId} {args : Array Value} {below : List Frame} {meth : Method} {c : Code} {H : Heap} {locs : List Loc} {cells slots : Nat} {Q : State → Prop}
variable {cc : ByteArray} {pc nL : Nat} {ls : Array Slot} {rest : List Value} {G : zG} {A : Nat → Prop} {a : Nat} {ws ws' : va_W}
theorem z_get {own C : String} {T : u_T} {N ci index : Nat} (k : Nat) (S : CallFix p m c cc nL s args zT own) (hin : ∀ w ∈ u_ws C T N, w ∈ zT) (hc : vwCl[ci]? = some (C, T, N)) (hk : k < N) (hC : (T k).1 = C) (hlink : Cond.fieldLink own index C (T k).2.1 (T k).2.2.1 ∈ zT) (r : zr G s ws H) (q0 : Nat) {fs : List Value} (he : ws[q0]? = some (a, .inr (ci, fs))) {v : Value} (hv : fs[k]? = some v) (hdg : decode cc pc = .ok (.getfield index, 3))
    (kk : W p l e R s m args below meth c H locs cells slots Q (F0 m (pc + 3) ls (v :: rest))) : W p l e R s m args below meth c H locs cells slots Q (F0 m pc ls (.ref a :: rest)) :=
  va_get (D := G.1) (ci := ci) (C := C) (T := T) (N := N) S.1 S.2.1 S.2.2.2.2 hin S.2.2.2.1 r.1.1 r.2 q0 he hc k hk (S.2.2.2.2 _ hlink) (fun x h => by rw [hC] at h; exact h) hv hdg kk
theorem z_put {own C : String} {T : u_T} {N ci index : Nat} (k : Nat) (S : CallFix p m c cc nL s args zT own) (hin : ∀ w ∈ u_ws C T N, w ∈ zT) (ty0 : Nat → FieldType) (hty : ∀ k, k < N → parseFieldDescriptor (T k).2.2.1 = some (ty0 k)) (hnm : ∀ a, a < N → ∀ b, b < N → a ≠ b → (T a).2.1 ≠ (T b).2.1) (hc : vwCl[ci]? = some (C, T, N)) (hk : k < N) (hC : (T k).1 = C) (hlink : Cond.fieldLink own index C (T k).2.1 (T k).2.2.1 ∈ zT) (hfin : (T k).2.2.2 = false)
    (w : zw G A s ws H locs) (q0 : Nat) {fs : List Value} (he : ws[q0]? = some (a, .inr (ci, fs))) {v : Value} (hn : narrow (ty0 k) v = v) (hfit : fits (ty0 k) v = true) (hl : k < fs.length) (hw : ws.set q0 (a, .inr (ci, fs.set k v)) = ws') (hdg : decode cc pc = .ok (.putfield index, 3))
    (kk : ∀ (H1 : Heap) (locs1 : List Loc), zw G A s ws' H1 locs1 → W p l e R s m args below meth c H1 locs1 cells slots Q (F0 m (pc + 3) ls rest)) : W p l e R s m args below meth c H locs cells slots Q (F0 m pc ls (v :: .ref a :: rest)) := by
  subst hw
  exact va_put (D := G.1) (ci := ci) (C := C) (T := T) (N := N) S.1 S.2.1 S.2.2.2.2 hin ty0 hty hnm S.2.2.2.1 w.1.1.1 w.1.2 w.2.1 w.2.2.1 q0 he hc k hk (S.2.2.2.2 _ hlink) (fun x h => by rw [hC] at h; exact h) hfin (hty k hk) hn hfit hl hdg (fun H1 locs1 hP hD hS => kk H1 locs1 ⟨⟨w.1.1, hP⟩, hD, hS, w.2.2.2⟩)
theorem z_putF {own C : String} {T : u_T} {N ci index : Nat} (k : Nat) (S : CallFix p m c cc nL s args zT own) (hin : ∀ w ∈ u_ws C T N, w ∈ zT) (ty0 : Nat → FieldType) (hty : ∀ k, k < N → parseFieldDescriptor (T k).2.2.1 = some (ty0 k)) (hnm : ∀ a, a < N → ∀ b, b < N → a ≠ b → (T a).2.1 ≠ (T b).2.1) (hc : vwCl[ci]? = some (C, T, N)) (hk : k < N) (hC : (T k).1 = C) (hlink : Cond.fieldLink own index C (T k).2.1 (T k).2.2.1 ∈ zT) (hfin : (T k).2.2.2 = true) (hCo : C = own) (hin2 : meth.name = "<init>")
    (w : zw G A s ws H locs) (q0 : Nat) {fs : List Value} (he : ws[q0]? = some (a, .inr (ci, fs))) {v : Value} (hn : narrow (ty0 k) v = v) (hfit : fits (ty0 k) v = true) (hl : k < fs.length) (hw : ws.set q0 (a, .inr (ci, fs.set k v)) = ws') (hdg : decode cc pc = .ok (.putfield index, 3))
    (kk : ∀ (H1 : Heap) (locs1 : List Loc), zw G A s ws' H1 locs1 → W p l e R s m args below meth c H1 locs1 cells slots Q (F0 m (pc + 3) ls rest)) : W p l e R s m args below meth c H locs cells slots Q (F0 m pc ls (v :: .ref a :: rest)) := by
  subst hw
  exact va_putF (D := G.1) (ci := ci) (C := C) (T := T) (N := N) S.1 S.2.1 S.2.2.2.2 hin ty0 hty hnm S.2.2.2.1 w.1.1.1 w.1.2 w.2.1 w.2.2.1 q0 he hc k hk (S.2.2.2.2 _ hlink) (fun x h => by rw [hC] at h; exact h) hfin hin2 (hC.trans hCo) (hty k hk) hn hfit hl hdg (fun H1 locs1 hP hD hS => kk H1 locs1 ⟨⟨w.1.1, hP⟩, hD, hS, w.2.2.2⟩)
-- arrays
theorem z_iald (hx : p.tables.exec = Jvm.exec) (hb : c.code = cc) (r : zr G s ws H) (q0 : Nat) {n k : Nat} {f : Nat → Int32} (ha : ws[q0]? = some (a, zI G n f)) (hk : k < n) (hn : n < 2 ^ 31) (hdg : decode cc pc = .ok (.iaload, 1))
    (kk : W p l e R s m args below meth c H locs cells slots Q (F0 m (pc + 1) ls (.int (f k) :: rest))) : W p l e R s m args below meth c H locs cells slots Q (F0 m pc ls (.int (nI k) :: .ref a :: rest)) :=
  va_iald hx hb r.1.1 r.2 q0 0 ha rfl (vp_in_nI hk hn) hdg (by rw [nI_clamp (Nat.lt_trans hk hn)]; exact kk)
theorem z_lald (hx : p.tables.exec = Jvm.exec) (hb : c.code = cc) (r : zr G s ws H) (q0 : Nat) {n k : Nat} {f : Nat → Int64} (ha : ws[q0]? = some (a, zL G n f)) (hk : k < n) (hn : n < 2 ^ 31) (hdg : decode cc pc = .ok (.laload, 1))
    (kk : W p l e R s m args below meth c H locs cells slots Q (F0 m (pc + 1) ls (.long (f k) :: rest))) : W p l e R s m args below meth c H locs cells slots Q (F0 m pc ls (.int (nI k) :: .ref a :: rest)) :=
  va_lald hx hb r.1.1 r.2 q0 1 ha rfl (vp_in_nI hk hn) hdg (by rw [nI_clamp (Nat.lt_trans hk hn)]; exact kk)
theorem z_aald (hx : p.tables.exec = Jvm.exec) (hb : c.code = cc) (r : zr G s ws H) (q0 : Nat) {n k : Nat} {f : Nat → Option Nat} (ha : ws[q0]? = some (a, zF G n f)) (hk : k < n) (hn : n < 2 ^ 31) (hdg : decode cc pc = .ok (.aaload, 1))
    (kk : W p l e R s m args below meth c H locs cells slots Q (F0 m (pc + 1) ls (va_rf (f k) :: rest))) : W p l e R s m args below meth c H locs cells slots Q (F0 m pc ls (.int (nI k) :: .ref a :: rest)) :=
  va_aldq hx hb r.1.1 r.2 q0 2 ha rfl (vp_in_nI hk hn) hdg (by rw [nI_clamp (Nat.lt_trans hk hn)]; exact kk)
theorem z_ilen (hx : p.tables.exec = Jvm.exec) (hb : c.code = cc) (r : zr G s ws H) (q0 : Nat) {n : Nat} {f : Nat → Int32} (ha : ws[q0]? = some (a, zI G n f)) (hdg : decode cc pc = .ok (.arraylength, 1))
    (kk : W p l e R s m args below meth c H locs cells slots Q (F0 m (pc + 1) ls (.int (nI n) :: rest))) : W p l e R s m args below meth c H locs cells slots Q (F0 m pc ls (.ref a :: rest)) :=
  va_alen hx hb r.1.1 r.2 q0 0 ha rfl rfl hdg kk
theorem z_llen (hx : p.tables.exec = Jvm.exec) (hb : c.code = cc) (r : zr G s ws H) (q0 : Nat) {n : Nat} {f : Nat → Int64} (ha : ws[q0]? = some (a, zL G n f)) (hdg : decode cc pc = .ok (.arraylength, 1))
    (kk : W p l e R s m args below meth c H locs cells slots Q (F0 m (pc + 1) ls (.int (nI n) :: rest))) : W p l e R s m args below meth c H locs cells slots Q (F0 m pc ls (.ref a :: rest)) :=
  va_alen hx hb r.1.1 r.2 q0 1 ha rfl rfl hdg kk
theorem z_iast (hx : p.tables.exec = Jvm.exec) (hb : c.code = cc) (w : zw G A s ws H locs) (q0 : Nat) {n k : Nat} {f : Nat → Int32} {x : Int32} (ha : ws[q0]? = some (a, zI G n f)) (hk : k < n) (hn : n < 2 ^ 31) (hw : ws.set q0 (a, zI G n (upd f k x)) = ws') (hdg : decode cc pc = .ok (.iastore, 1))
    (kk : ∀ (H1 : Heap) (locs1 : List Loc), zw G A s ws' H1 locs1 → W p l e R s m args below meth c H1 locs1 cells slots Q (F0 m (pc + 1) ls rest)) : W p l e R s m args below meth c H locs cells slots Q (F0 m pc ls (.int x :: .int (nI k) :: .ref a :: rest)) := by
  subst hw
  exact va_iast hx hb w.1.1.1 w.1.2 w.2.1 w.2.2.1 q0 0 ha rfl (vp_in_nI hk hn) hdg (fun H1 locs1 hP hD hS => by
    rw [nI_clamp (Nat.lt_trans hk hn)] at hP hD
    exact kk H1 locs1 ⟨⟨w.1.1, hP⟩, hD, hS, w.2.2.2⟩)
theorem z_last (hx : p.tables.exec = Jvm.exec) (hb : c.code = cc) (w : zw G A s ws H locs) (q0 : Nat) {n k : Nat} {f : Nat → Int64} {x : Int64} (ha : ws[q0]? = some (a, zL G n f)) (hk : k < n) (hn : n < 2 ^ 31) (hw : ws.set q0 (a, zL G n (vp_updL f k x)) = ws') (hdg : decode cc pc = .ok (.lastore, 1))
    (kk : ∀ (H1 : Heap) (locs1 : List Loc), zw G A s ws' H1 locs1 → W p l e R s m args below meth c H1 locs1 cells slots Q (F0 m (pc + 1) ls rest)) : W p l e R s m args below meth c H locs cells slots Q (F0 m pc ls (.long x :: .int (nI k) :: .ref a :: rest)) := by
  subst hw
  exact va_last hx hb w.1.1.1 w.1.2 w.2.1 w.2.2.1 q0 1 ha rfl (vp_in_nI hk hn) hdg (fun H1 locs1 hP hD hS => by
    rw [nI_clamp (Nat.lt_trans hk hn)] at hP hD
    exact kk H1 locs1 ⟨⟨w.1.1, hP⟩, hD, hS, w.2.2.2⟩)
theorem z_cA {cA : ClassId} {tys : List (ClassId × FieldType)} {D : va_G} {ty : FieldType} {t0 t1 : Nat} {cB : ClassId} (hK : va_K D vwCl tys s) (h0 : tys[t0]? = some (cA, ty)) (h1 : tys[t1]? = some (cB, ty)) (hty : ∀ C, ty ≠ .object C) : cA = cB := by
  have a1 := (hK.2 t0 _ h0).2
  have a2 := (hK.2 t1 _ h1).2
  have b1 : s.vm.findClass ("[" ++ ty.toString) = some cA := by cases ty <;> first | exact a1 | exact absurd rfl (hty _)
  have b2 : s.vm.findClass ("[" ++ ty.toString) = some cB := by cases ty <;> first | exact a2 | exact absurd rfl (hty _)
  rw [b1] at b2
  exact Option.some.inj b2
theorem z_newi (hx : p.tables.exec = Jvm.exec) (hb : c.code = cc) (hts : ∀ w ∈ zT, w.before args s = true) (harr : Cond.arrayClass .int ∈ zT) (w : zw G A s ws H locs) {N : Nat} (hN : N ≤ 100000) (hcells : cells + 1 ≤ R.cells) (hslots : slots + N ≤ R.slots) (hdg : decode cc pc = .ok (.newarray .int, 2))
    (kk : ∀ (q : Nat) (H1 : Heap), zw G A s (ws ++ [(q, zI G N (fun _ => 0))]) H1 locs → W p l e R s m args below meth c H1 locs (cells + 1) (slots + N) Q (F0 m (pc + 2) ls (.ref q :: rest))) : W p l e R s m args below meth c H locs cells slots Q (F0 m pc ls (.int (nI N) :: rest)) := by
  refine va_newa (atype := .int) (a0 := (N, .inl (fun _ => 0))) (N' := N) hx hb (hts _ harr) rfl w.1.1.1 w.1.2 w.2.1 w.2.2.1 w.2.2.2 (fun cA => rfl) (nI_pos (by omega)) (nI_clamp (by omega)) (by show N * 4 ≤ _; omega) hcells hslots hdg (fun q cA H1 hK hP hD hS => ?_)
  have hc : cA = G.2 0 := z_cA (t0 := 3) (t1 := 0) hK rfl rfl (fun C h => by cases h)
  subst hc
  exact kk q H1 ⟨⟨w.1.1, hP⟩, hD, hS, w.2.2.2⟩
theorem z_newl (hx : p.tables.exec = Jvm.exec) (hb : c.code = cc) (hts : ∀ w ∈ zT, w.before args s = true) (harr : Cond.arrayClass .long ∈ zT) (w : zw G A s ws H locs) {N : Nat} (hN : N ≤ 100000) (hcells : cells + 1 ≤ R.cells) (hslots : slots + N ≤ R.slots) (hdg : decode cc pc = .ok (.newarray .long, 2))
    (kk : ∀ (q : Nat) (H1 : Heap), zw G A s (ws ++ [(q, zL G N (fun _ => 0))]) H1 locs → W p l e R s m args below meth c H1 locs (cells + 1) (slots + N) Q (F0 m (pc + 2) ls (.ref q :: rest))) : W p l e R s m args below meth c H locs cells slots Q (F0 m pc ls (.int (nI N) :: rest)) := by
  refine va_newa (atype := .long) (a0 := (N, .inr (.inl (fun _ => 0)))) (N' := N) hx hb (hts _ harr) rfl w.1.1.1 w.1.2 w.2.1 w.2.2.1 w.2.2.2 (fun cA => rfl) (nI_pos (by omega)) (nI_clamp (by omega)) (by show N * 8 ≤ _; omega) hcells hslots hdg (fun q cA H1 hK hP hD hS => ?_)
  have hc : cA = G.2 1 := z_cA (t0 := 3) (t1 := 1) hK rfl rfl (fun C h => by cases h)
  subst hc
  exact kk q H1 ⟨⟨w.1.1, hP⟩, hD, hS, w.2.2.2⟩
-- contracts
def zPr (G : zG) (av : List Value) (wr : va_W) : Array Value → State → Prop := va_Pc av (fun U => zr G U wr U.heap)
def zPw (G : zG) (av : List Value) (wc : va_W) (sz : Nat) : Array Value → State → Prop := va_Pc av (fun U => U.heap.size = sz ∧ zr G U wc U.heap ∧ va_D (fun _ => True) wc)
def zQ {S : Type} (G : zG) (rv : S → Option Value) (w' : S → va_W) (A : Nat → Prop) (post : S → Prop) : Array Value → State → Outcome → State → Prop := fun _ st oc t => (∃ u : S, oc = .returned (rv u) ∧ post u ∧ va_P G.1 vwCl (w' u) t.heap ∧ va_D A (w' u)) ∧ va_F A st t
theorem zPr_blind {av : List Value} {wr : va_W} : FrameBlind (zPr G av wr) := fun a U g mk q => ⟨q.1, zKK.same (u := U) (U := U.calling g mk a) rfl q.2.1, q.2.2⟩
theorem zPw_blind {av : List Value} {wc : va_W} {sz : Nat} : FrameBlind (zPw G av wc sz) := fun a U g mk q => ⟨q.1, q.2.1, ⟨zKK.same (u := U) (U := U.calling g mk a) rfl q.2.2.1.1, q.2.2.1.2⟩, q.2.2.2⟩
def zV (own : String) (index : Nat) (y : MethodName) (bytes : ByteArray) (maxL : Nat) (ret : Option FieldType) (n : Nat) : Prop :=
  (Cond.methodLink own index y ∈ zT ∧ Cond.instanceMethod y ∈ zT ∧ Cond.selects y.cls y y ∈ zT ∧ Cond.initialized y.cls ∈ zT ∧ Cond.code y bytes maxL ret ∈ zT) ∧ y.cls ≠ "java/lang/invoke/MethodHandle" ∧ y.cls ≠ "java/lang/invoke/VarHandle" ∧ (parseMethodDescriptor y.desc).map (fun d => d.parameters.length) = some n
theorem zV.good {own : String} {index : Nat} {y : MethodName} {bytes : ByteArray} {maxL n : Nat} {ret : Option FieldType} (h : zV own index y bytes maxL ret n) : GoodIn zT (wsV own index y.cls y (.code y bytes maxL ret :: zT)) := by
  have key : ∀ w ∈ wsV own index y.cls y (.code y bytes maxL ret :: zT), w ∈ zT := by
    intro w hw
    simp only [wsV, List.mem_append, List.mem_cons, List.not_mem_nil, or_false] at hw
    rcases hw with (rfl | rfl | rfl | rfl) | rfl | hw
    · exact h.1.1
    · exact h.1.2.1
    · exact h.1.2.2.1
    · exact h.1.2.2.2.1
    · exact h.1.2.2.2.2
    · exact hw
  exact fun w hw => ⟨key w hw, zT_good w (key w hw)⟩
def zSt (own : String) (index : Nat) (y : MethodName) (bytes : ByteArray) (maxL : Nat) (ret : Option FieldType) (n : Nat) : Prop :=
  (Cond.methodLink own index y ∈ zT ∧ Cond.static y ∈ zT ∧ Cond.initialized y.cls ∈ zT ∧ Cond.code y bytes maxL ret ∈ zT) ∧ y.cls ≠ "java/lang/invoke/MethodHandle" ∧ y.cls ≠ "java/lang/invoke/VarHandle" ∧ (parseMethodDescriptor y.desc).map (fun d => d.parameters.length) = some n
theorem zgood {y : MethodName} {bytes : ByteArray} {maxL : Nat} {ret : Option FieldType} (h : Cond.code y bytes maxL ret ∈ zT) : GoodIn zT (.code y bytes maxL ret :: zT) := by
  intro w hw
  rcases List.mem_cons.mp hw with rfl | hw
  · exact ⟨h, zT_good _ h⟩
  · exact ⟨hw, zT_good _ hw⟩
def zRm (R rm : Room) (maxL : Nat) : Prop := rm.frames + 1 ≤ R.frames ∧ 8 + (maxL + 11) + rm.locals ≤ R.locals
variable {y : MethodName} {bytes : ByteArray} {maxL n index mc ms : Nat} {ret : Option FieldType} {own : String} {b : Nat} {As st0 : List Value} {rm : Room} {wr wc : va_W} {rv : Value}
theorem z_rV (S : CallFix p m c cc nL s args zT own) (hM : Met l y (.code y bytes maxL ret :: zT) rm (zPr G (.ref b :: As) wr) (k2_QcV rv) 0 0 (fun _ => False)) (hy : zV own index y bytes maxL ret n) (hrm : rm.cells = 0 ∧ rm.slots = 0) (hR : zRm R rm maxL) (r : zr G s ws H) (is : List Nat) (hs : is.filterMap (fun i => ws[i]?) = wr) (q0 : Nat) {ci : Nat} {fs : List Value} {q : vw_C} (he : ws[q0]? = some (b, .inr (ci, fs))) (hc : vwCl[ci]? = some q) (hq : q.1 = y.cls) (hn : As.length = n) (hl : ls.size = nL) (hst : st0 = As.reverse ++ .ref b :: rest) (hcat : (rest.map fun v => v.category).sum ≤ 8) (hdg : decode cc pc = .ok (.invokevirtual index, 3)) (hf : cells ≤ R.cells ∧ slots ≤ R.slots)
    (kk : W p l e R s m args below meth c H locs cells slots Q (F0 m (pc + 3) ls (rv :: rest))) : W p l e R s m args below meth c H locs cells slots Q (F0 m pc ls st0) :=
  W.callV (W.runV (C := y.cls) (b := b) (As := As) (rest := rest) S hM (cwV n S.2.2.2.2 hy.good rfl hrm.1 hrm.2 ⟨rfl, hy.2⟩ hR) ⟨zPr_blind, hq ▸ va_recv r.1.1 r.2 hc he, fun U hU hW => ⟨rfl, zKK.warm hW r.1, by rw [hU]; exact r.2.sub is hs⟩⟩ rfl hn hl hst (lv_room hcat) hdg hf) kk
theorem z_rS (S : CallFix p m c cc nL s args zT own) (hM : Met l y (.code y bytes maxL ret :: zT) rm (zPr G As wr) (k2_QcV rv) 0 0 (fun _ => False)) (hy : zSt own index y bytes maxL ret n) (hrm : rm.cells = 0 ∧ rm.slots = 0) (hR : zRm R rm maxL) (r : zr G s ws H) (is : List Nat) (hs : is.filterMap (fun i => ws[i]?) = wr) (hn : As.length = n) (hl : ls.size = nL) (hst : st0 = As.reverse ++ rest) (hcat : (rest.map fun v => v.category).sum ≤ 8) (hdg : decode cc pc = .ok (.invokestatic index, 3)) (hf : cells ≤ R.cells ∧ slots ≤ R.slots)
    (kk : W p l e R s m args below meth c H locs cells slots Q (F0 m (pc + 3) ls (rv :: rest))) : W p l e R s m args below meth c H locs cells slots Q (F0 m pc ls st0) :=
  W.callV (W.runS (As := As) (rest := rest) S hM ⟨callB_of n S.2.2.2.2 (zgood hy.1.2.2.2) rfl hrm.1 hrm.2 (S.2.2.2.2 _ hy.1.2.2.1) (S.2.2.2.2 _ hy.1.1) hy.2 hR, S.2.2.2.2 _ hy.1.2.1⟩ ⟨zPr_blind, fun U hU hW => ⟨rfl, zKK.warm hW r.1, by rw [hU]; exact r.2.sub is hs⟩⟩ rfl hn hl hst (lv_room hcat) hdg hf) kk
theorem z_callW {S : Type} {rz : S → Option Value} {w' : S → va_W} {post : S → Prop} {av : Array Value} (hr : va_Run p l e R s m args below meth c H locs cells slots mc ms (F0 m pc ls st0) rest (zQ G rz w' (va_A wc H.size) post av) (va_A wc H.size)) (w : zw G A s ws H locs) (isC isR : List Nat) (hC : isC.map (fun i => ws[i]?) = wc.map some) (hR : isR.map (fun i => ws[i]?) = wr.map some) (hn : va_nd isR = true) (hdis : ∀ i ∈ isR, i ∉ isC)
    (kk : ∀ (u : S) (H1 : Heap) (locs1 : List Loc), post u → zw G A s (wr ++ w' u) H1 locs1 → W p l e R s m args below meth c H1 locs1 (cells + mc) (slots + ms) Q (F0 m (pc + 3) ls ((rz u).toList ++ rest))) : W p l e R s m args below meth c H locs cells slots Q (F0 m pc ls st0) := by
  intro T hT X
  obtain ⟨v, st₀, t, T', L, h0, X', hL, e1, e2, ⟨⟨u, hv, hp, hP1, hD1⟩, hz, hk⟩, st⟩ := hr T hT X
  cases hv
  rw [h0] at hz hk
  obtain ⟨⟨hK, hP⟩, hD, hS, hA⟩ := w
  have hF := va_free (wc := wc) hD hS hA isC hC
  have hk' : ∀ q : Nat, q < H.size → ¬ va_A wc H.size q → T'.heap[q]? = H[q]? := fun q h1 h2 => by rw [e1]; exact hk q h1 h2
  have hP1' : va_P G.1 vwCl (w' u) T'.heap := by rw [e1]; exact hP1
  obtain ⟨hP2, hD2⟩ := va_join (wr := wr) (w1 := w' u) hP hD isC isR hC hR hn hdis hk' hF hP1' hD1
  have hz' : H.size ≤ T'.heap.size := by rw [e1]; exact hz
  have hS2 : va_S A s.heap T'.heap (locs ++ L) := ⟨Nat.le_trans hS.1 hz', fun q h1 h2 => by rw [hk' q (Nat.lt_of_lt_of_le h1 hS.1) (fun z => h2 (hF q z))]; exact hS.2.1 q h1 h2, fun q hq => by
      rcases List.mem_append.mp hq with h | h
      · exact hS.2.2 q h
      · exact hF _ (hL q h)⟩
  obtain ⟨t2, a1, b1⟩ := kk u T'.heap (locs ++ L) hp ⟨⟨hK, hP2⟩, hD2, hS2, hA⟩ T' rfl X'
  exact ⟨t2, st t2 a1, b1⟩
theorem z_wV {Sy : Type} {rz : Sy → Option Value} {w' : Sy → va_W} {post : Sy → Prop} (S : CallFix p m c cc nL s args zT own) (hM : Met l y (.code y bytes maxL ret :: zT) rm (zPw G (.ref b :: As) wc H.size) (zQ G rz w' (va_A wc H.size) post) mc ms (va_A wc H.size)) (hy : zV own index y bytes maxL ret n) (hrm : rm.cells = mc ∧ rm.slots = ms) (hR : zRm R rm maxL) (w : zw G A s ws H locs) (isC isR : List Nat) (hC : isC.map (fun i => ws[i]?) = wc.map some) (hRs : isR.map (fun i => ws[i]?) = wr.map some) (hnC : va_nd isC = true) (hnR : va_nd isR = true) (hdis : ∀ i ∈ isR, i ∉ isC) (q0 : Nat) {ci : Nat} {fs : List Value} {q : vw_C} (he : ws[q0]? = some (b, .inr (ci, fs))) (hc : vwCl[ci]? = some q) (hq : q.1 = y.cls) (hn : As.length = n) (hl : ls.size = nL) (hst : st0 = As.reverse ++ .ref b :: rest) (hcat : (rest.map fun v => v.category).sum ≤ 8) (hdg : decode cc pc = .ok (.invokevirtual index, 3)) (hf : cells + mc ≤ R.cells ∧ slots + ms ≤ R.slots)
    (kk : ∀ (u : Sy) (H1 : Heap) (locs1 : List Loc), post u → zw G A s (wr ++ w' u) H1 locs1 → W p l e R s m args below meth c H1 locs1 (cells + mc) (slots + ms) Q (F0 m (pc + 3) ls ((rz u).toList ++ rest))) : W p l e R s m args below meth c H locs cells slots Q (F0 m pc ls st0) :=
  z_callW (va_runV (C := y.cls) (b := b) (As := As) (rest := rest) S hM (cwV n S.2.2.2.2 hy.good rfl hrm.1 hrm.2 ⟨rfl, hy.2⟩ hR) ⟨zPw_blind, hq ▸ va_recv w.1.1.1 w.1.2 hc he, fun U hU hW => ⟨rfl, by rw [hU], ⟨zKK.warm hW w.1.1, by rw [hU]; exact w.1.2.sub isC (zfm hC)⟩, (w.2.1.sub isC hnC hC).weaken (fun _ _ _ _ => trivial)⟩⟩ rfl hn hl hst (lv_room hcat) hdg hf) w isC isR hC hRs hnR hdis kk
theorem z_wS {Sy : Type} {rz : Sy → Option Value} {w' : Sy → va_W} {post : Sy → Prop} (S : CallFix p m c cc nL s args zT own) (hM : Met l y (.code y bytes maxL ret :: zT) rm (zPw G As wc H.size) (zQ G rz w' (va_A wc H.size) post) mc ms (va_A wc H.size)) (hy : zSt own index y bytes maxL ret n) (hrm : rm.cells = mc ∧ rm.slots = ms) (hR : zRm R rm maxL) (w : zw G A s ws H locs) (isC isR : List Nat) (hC : isC.map (fun i => ws[i]?) = wc.map some) (hRs : isR.map (fun i => ws[i]?) = wr.map some) (hnC : va_nd isC = true) (hnR : va_nd isR = true) (hdis : ∀ i ∈ isR, i ∉ isC) (hn : As.length = n) (hl : ls.size = nL) (hst : st0 = As.reverse ++ rest) (hcat : (rest.map fun v => v.category).sum ≤ 8) (hdg : decode cc pc = .ok (.invokestatic index, 3)) (hf : cells + mc ≤ R.cells ∧ slots + ms ≤ R.slots)
    (kk : ∀ (u : Sy) (H1 : Heap) (locs1 : List Loc), post u → zw G A s (wr ++ w' u) H1 locs1 → W p l e R s m args below meth c H1 locs1 (cells + mc) (slots + ms) Q (F0 m (pc + 3) ls ((rz u).toList ++ rest))) : W p l e R s m args below meth c H locs cells slots Q (F0 m pc ls st0) :=
  z_callW (va_runS (As := As) (rest := rest) S hM ⟨callB_of n S.2.2.2.2 (zgood hy.1.2.2.2) rfl hrm.1 hrm.2 (S.2.2.2.2 _ hy.1.2.2.1) (S.2.2.2.2 _ hy.1.1) hy.2 hR, S.2.2.2.2 _ hy.1.2.1⟩ ⟨zPw_blind, fun U hU hW => ⟨rfl, by rw [hU], ⟨zKK.warm hW w.1.1, by rw [hU]; exact w.1.2.sub isC (zfm hC)⟩, (w.2.1.sub isC hnC hC).weaken (fun _ _ _ _ => trivial)⟩⟩ rfl hn hl hst (lv_room hcat) hdg hf) w isC isR hC hRs hnR hdis kk
/-- a constructor -/
def zN (own : String) (index : Nat) (y : MethodName) (bytes : ByteArray) (maxL n : Nat) : Prop :=
  (Cond.methodLink own index y ∈ zT ∧ Cond.instanceMethod y ∈ zT ∧ Cond.initialized y.cls ∈ zT ∧ Cond.code y bytes maxL none ∈ zT) ∧ y.name = "<init>" ∧ y.cls ≠ "java/lang/invoke/MethodHandle" ∧ y.cls ≠ "java/lang/invoke/VarHandle" ∧ (parseMethodDescriptor y.desc).map (fun d => d.parameters.length) = some n
theorem z_wI {Sy : Type} {rz : Sy → Option Value} {w' : Sy → va_W} {post : Sy → Prop} (S : CallFix p m c cc nL s args zT own) (hM : Met l y (.code y bytes maxL none :: zT) rm (zPw G (.ref b :: As) wc H.size) (zQ G rz w' (va_A wc H.size) post) mc ms (va_A wc H.size)) (hy : zN own index y bytes maxL n) (hrm : rm.cells = mc ∧ rm.slots = ms) (hR : zRm R rm maxL) (w : zw G A s ws H locs) (isC isR : List Nat) (hC : isC.map (fun i => ws[i]?) = wc.map some) (hRs : isR.map (fun i => ws[i]?) = wr.map some) (hnC : va_nd isC = true) (hnR : va_nd isR = true) (hdis : ∀ i ∈ isR, i ∉ isC) (hn : As.length = n) (hl : ls.size = nL) (hst : st0 = As.reverse ++ .ref b :: rest) (hcat : (rest.map fun v => v.category).sum ≤ 8) (hdg : decode cc pc = .ok (.invokespecial index, 3)) (hf : cells + mc ≤ R.cells ∧ slots + ms ≤ R.slots)
    (kk : ∀ (u : Sy) (H1 : Heap) (locs1 : List Loc), post u → zw G A s (wr ++ w' u) H1 locs1 → W p l e R s m args below meth c H1 locs1 (cells + mc) (slots + ms) Q (F0 m (pc + 3) ls ((rz u).toList ++ rest))) : W p l e R s m args below meth c H locs cells slots Q (F0 m pc ls st0) :=
  z_callW (va_runI (b := b) (As := As) (rest := rest) S hM ⟨callB_of n S.2.2.2.2 (zgood hy.1.2.2.2) rfl hrm.1 hrm.2 (S.2.2.2.2 _ hy.1.2.2.1) (S.2.2.2.2 _ hy.1.1) hy.2.2 hR, hy.2.1, S.2.2.2.2 _ hy.1.2.1⟩ ⟨zPw_blind, fun U hU hW => ⟨rfl, by rw [hU], ⟨zKK.warm hW w.1.1, by rw [hU]; exact w.1.2.sub isC (zfm hC)⟩, (w.2.1.sub isC hnC hC).weaken (fun _ _ _ _ => trivial)⟩⟩ rfl hn hl hst (lv_room hcat) hdg hf) w isC isR hC hRs hnR hdis kk
end ZA
/-- the entry of a method that only reads -/
theorem z_metR {l : Launch} {G : zG} {y : MethodName} {bytes : ByteArray} {maxL : Nat} {ret : Option FieldType} {rm : Room} {av : List Value} {wr : va_W} {rv : Value} (hy : plainName y.cls = true) (hlen : (lg_sl av).length ≤ maxL)
    (body : ∀ (p : Program) (e : Env) (s : State) (m : MethodId) (args : Array Value) (below : List Frame) (meth : Method) (c : Code) (ls : Array Slot), CallFix p m c bytes maxL s args zT y.cls → meth.sig.returnType = ret → meth.locks = false → zr G s wr s.heap → lv_has ls maxL (lv_args 0 av) → W p l e rm s m args below meth c s.heap [] 0 0 (MQ below (k2_QcV rv) args s 0 0 (fun _ => False)) (F0 m 0 ls [])) :
    Met l y (.code y bytes maxL ret :: zT) rm (zPr G av wr) (k2_QcV rv) 0 0 (fun _ => False) := by
  refine Met.ofW (cc := bytes) (maxL := maxL) (ret := ret) hy rfl ?_
  intro p e s m args below meth c s₁ B hml hv
  obtain ⟨rfl, hr⟩ := hv
  have hts := atoms_spec (ws := .code y bytes maxL ret :: zT) B.pre
  have hown : s.vm.findClass y.cls = some m.cls := findClass_of_methodNamed B.named
  have hl := lv_entry av (n := maxL) hlen
  rw [lg_entry_eq]
  generalize (lg_sl av ++ List.replicate (maxL - (lg_sl av).length) Slot.unset).toArray = ls at hl ⊢
  exact body p e s m _ below meth c ls ⟨B.exec, B.bytes, hml, hown, fun w h => hts w (List.mem_cons_of_mem _ h)⟩ B.returns B.notSynchronized hr hl
theorem z_metW {l : Launch} {G : zG} {Sy : Type} {rz : Sy → Option Value} {w' : Sy → va_W} {post : Sy → Prop} {y : MethodName} {bytes : ByteArray} {maxL mc ms sz : Nat} {ret : Option FieldType} {rm : Room} {av : List Value} {wc : va_W} (hy : plainName y.cls = true) (hlen : (lg_sl av).length ≤ maxL)
    (body : ∀ (p : Program) (e : Env) (s : State) (m : MethodId) (args : Array Value) (below : List Frame) (meth : Method) (c : Code) (ls : Array Slot) (A : Nat → Prop), CallFix p m c bytes maxL s args zT y.cls → meth.sig.returnType = ret → meth.locks = false → meth.name = y.name → zw G A s wc s.heap [] → lv_has ls maxL (lv_args 0 av) → W p l e rm s m args below meth c s.heap [] 0 0 (MQ below (zQ G rz w' A post) args s mc ms A) (F0 m 0 ls [])) :
    Met l y (.code y bytes maxL ret :: zT) rm (zPw G av wc sz) (zQ G rz w' (va_A wc sz) post) mc ms (va_A wc sz) := by
  refine Met.ofW (cc := bytes) (maxL := maxL) (ret := ret) hy rfl ?_
  intro p e s m args below meth c s₁ B hml hv
  obtain ⟨rfl, hsz, hr, hD0⟩ := hv
  subst hsz
  have hts := atoms_spec (ws := .code y bytes maxL ret :: zT) B.pre
  have hown : s.vm.findClass y.cls = some m.cls := findClass_of_methodNamed B.named
  have hnm : meth.name = y.name := (name_of_methodNamed B.named B.method).1
  have hD := hD0.self (sz := s.heap.size)
  have hl := lv_entry av (n := maxL) hlen
  rw [lg_entry_eq]
  generalize (lg_sl av ++ List.replicate (maxL - (lg_sl av).length) Slot.unset).toArray = ls at hl ⊢
  exact body p e s m _ below meth c ls _ ⟨B.exec, B.bytes, hml, hown, fun w h => hts w (List.mem_cons_of_mem _ h)⟩ B.returns B.notSynchronized hnm ⟨hr, hD, va_S.rf, fun q h => Or.inr h⟩ hl
-- more rows: arrays of counted numbers, longs, sets
theorem upd_nI (V : Nat → Nat) (k x : Nat) : upd (fun j => nI (V j)) k (nI x) = fun j => nI (va_up V k x j) := by
  funext j
  unfold upd va_up
  by_cases h : j = k <;> simp [h]
theorem updL_lN (V : Nat → Nat) (k x : Nat) : vp_updL (fun j => lN (V j)) k (lN x) = fun j => lN (va_up V k x j) := by
  funext j
  unfold vp_updL va_up
  by_cases h : j = k <;> simp [h]
/-- a without b -/
def sdf (a b : Nat) : Nat := a ^^^ (a &&& b)
theorem sdf_bit (a b i : Nat) : (sdf a b).testBit i = (a.testBit i && !b.testBit i) := by
  unfold sdf
  rw [Nat.testBit_xor, Nat.testBit_and]
  cases a.testBit i <;> cases b.testBit i <;> rfl
theorem zb_andC (a b : Nat) : nI a &&& (nI b ^^^ (-1)) = nI (sdf a b) := by
  unfold sdf
  rw [← zb_xor, ← zb_and]
  apply Int32.toBitVec_inj.mp
  have h1 : (-1 : Int32).toBitVec = BitVec.allOnes 32 := by decide
  rw [Int32.toBitVec_and, Int32.toBitVec_xor, Int32.toBitVec_xor, Int32.toBitVec_and, h1]
  generalize (nI a).toBitVec = x
  generalize (nI b).toBitVec = y
  apply BitVec.eq_of_getLsbD_eq
  intro i hi
  simp only [BitVec.getLsbD_and, BitVec.getLsbD_xor, BitVec.getLsbD_allOnes, hi, decide_true]
  cases x.getLsbD i <;> cases y.getLsbD i <;> rfl
section ZM
variable {p : Program} {l : Launch} {e : Env} {R : Room} {s : State} {m : MethodId} {args : Array Value} {below : List Frame} {meth : Method} {c : Code} {H : Heap} {locs : List Loc} {cells slots : Nat} {Q : State → Prop}
variable {cc : ByteArray} {pc nL : Nat} {ls : Array Slot} {rest : List Value} {G : zG} {A : Nat → Prop} {a : Nat} {ws ws' : va_W}
theorem z_andC (hx : p.tables.exec = Jvm.exec) (hb : c.code = cc) {x y : Nat} (hdg : decode cc pc = .ok (.iand, 1)) (k : W p l e R s m args below meth c H locs cells slots Q (F0 m (pc + 1) ls (.int (nI (sdf x y)) :: rest))) : W p l e R s m args below meth c H locs cells slots Q (F0 m pc ls (.int (nI y ^^^ (-1)) :: .int (nI x) :: rest)) :=
  lv_iand hx hb hdg (by rw [zb_andC]; exact k)
theorem z_iastN (hx : p.tables.exec = Jvm.exec) (hb : c.code = cc) (w : zw G A s ws H locs) (q0 : Nat) {n k x : Nat} {V : Nat → Nat} (ha : ws[q0]? = some (a, zI G n (fun j => nI (V j)))) (hk : k < n) (hn : n < 2 ^ 31) (hw : ws.set q0 (a, zI G n (fun j => nI (va_up V k x j))) = ws') (hdg : decode cc pc = .ok (.iastore, 1))
    (kk : ∀ (H1 : Heap) (locs1 : List Loc), zw G A s ws' H1 locs1 → W p l e R s m args below meth c H1 locs1 cells slots Q (F0 m (pc + 1) ls rest)) : W p l e R s m args below meth c H locs cells slots Q (F0 m pc ls (.int (nI x) :: .int (nI k) :: .ref a :: rest)) :=
  z_iast hx hb w q0 ha hk hn (by rw [upd_nI]; exact hw) hdg kk
theorem z_lastN (hx : p.tables.exec = Jvm.exec) (hb : c.code = cc) (w : zw G A s ws H locs) (q0 : Nat) {n k x : Nat} {V : Nat → Nat} (ha : ws[q0]? = some (a, zL G n (fun j => lN (V j)))) (hk : k < n) (hn : n < 2 ^ 31) (hw : ws.set q0 (a, zL G n (fun j => lN (va_up V k x j))) = ws') (hdg : decode cc pc = .ok (.lastore, 1))
    (kk : ∀ (H1 : Heap) (locs1 : List Loc), zw G A s ws' H1 locs1 → W p l e R s m args below meth c H1 locs1 cells slots Q (F0 m (pc + 1) ls rest)) : W p l e R s m args below meth c H locs cells slots Q (F0 m pc ls (.long (lN x) :: .int (nI k) :: .ref a :: rest)) :=
  z_last hx hb w q0 ha hk hn (by rw [updL_lN]; exact hw) hdg kk
theorem z_laddN (hx : p.tables.exec = Jvm.exec) (hb : c.code = cc) {x y : Nat} (hdg : decode cc pc = .ok (.ladd, 1)) (k : W p l e R s m args below meth c H locs cells slots Q (F0 m (pc + 1) ls (.long (lN (x + y)) :: rest))) : W p l e R s m args below meth c H locs cells slots Q (F0 m pc ls (.long (lN y) :: .long (lN x) :: rest)) :=
  lv_ladd hx hb hdg (by rw [lN_add]; exact k)
theorem z_lmulN (hx : p.tables.exec = Jvm.exec) (hb : c.code = cc) {x y : Nat} (hdg : decode cc pc = .ok (.lmul, 1)) (k : W p l e R s m args below meth c H locs cells slots Q (F0 m (pc + 1) ls (.long (lN (x * y)) :: rest))) : W p l e R s m args below meth c H locs cells slots Q (F0 m pc ls (.long (lN y) :: .long (lN x) :: rest)) :=
  lv_lmul hx hb hdg (by rw [lN_mul]; exact k)
theorem zl_ne0 {y : Nat} (h0 : 0 < y) (hy : y < 2 ^ 63) : ¬ lN y = 0 := fun q => by
  have h2 : lN y = lN 0 := q
  have := (pk_lEQ hy (by decide)).mp h2
  omega
theorem z_ldivN (hx : p.tables.exec = Jvm.exec) (hb : c.code = cc) {x y : Nat} (h : x < 2 ^ 63) (h0 : 0 < y) (hy : y < 2 ^ 63) (hdg : decode cc pc = .ok (.ldiv, 1)) (k : W p l e R s m args below meth c H locs cells slots Q (F0 m (pc + 1) ls (.long (lN (x / y)) :: rest))) : W p l e R s m args below meth c H locs cells slots Q (F0 m pc ls (.long (lN y) :: .long (lN x) :: rest)) :=
  lv_ldiv hx hb hdg (zl_ne0 h0 hy) (by rw [pk_lDiv h h0 hy]; exact k)
theorem z_lremN (hx : p.tables.exec = Jvm.exec) (hb : c.code = cc) {x y : Nat} (h : x < 2 ^ 63) (h0 : 0 < y) (hy : y < 2 ^ 63) (hdg : decode cc pc = .ok (.lrem, 1)) (k : W p l e R s m args below meth c H locs cells slots Q (F0 m (pc + 1) ls (.long (lN (x % y)) :: rest))) : W p l e R s m args below meth c H locs cells slots Q (F0 m pc ls (.long (lN y) :: .long (lN x) :: rest)) :=
  lv_lrem hx hb hdg (zl_ne0 h0 hy) (by rw [pk_lRem h h0 hy]; exact k)
end ZM
section ZMet
variable {l : Launch} {G : zG} {y : MethodName} {bytes : ByteArray} {maxL : Nat} {rm : Room} {av : List Value} {wr wc : va_W}
theorem z_metRi {r : Int32} (hy : plainName y.cls = true) (hlen : (lg_sl av).length ≤ maxL)
    (body : ∀ (p : Program) (e : Env) (s : State) (m : MethodId) (args : Array Value) (below : List Frame) (meth : Method) (c : Code) (ls : Array Slot) (Q : State → Prop), CallFix p m c bytes maxL s args zT y.cls → zr G s wr s.heap → lv_has ls maxL (lv_args 0 av) → (∀ (pc : Nat) (ls : Array Slot) (v : Int32), decode bytes pc = .ok (.ireturn, 1) → v = r → W p l e rm s m args below meth c s.heap [] 0 0 Q (F0 m pc ls [.int v])) → W p l e rm s m args below meth c s.heap [] 0 0 Q (F0 m 0 ls [])) :
    Met l y (.code y bytes maxL (some .int) :: zT) rm (zPr G av wr) (k2_QcV (.int r)) 0 0 (fun _ => False) :=
  z_metR hy hlen (fun p e s m args below meth c ls S hr hlocks r hl => body p e s m args below meth c ls _ S r hl (fun pc ls v d hv => by
    subst hv
    exact W.iret S.1 S.2.1 hr (fun t ht _ => ⟨rfl, ht⟩) (fun q h => by cases h) d hlocks))
theorem z_metRl {r : Int64} (hy : plainName y.cls = true) (hlen : (lg_sl av).length ≤ maxL)
    (body : ∀ (p : Program) (e : Env) (s : State) (m : MethodId) (args : Array Value) (below : List Frame) (meth : Method) (c : Code) (ls : Array Slot) (Q : State → Prop), CallFix p m c bytes maxL s args zT y.cls → zr G s wr s.heap → lv_has ls maxL (lv_args 0 av) → (∀ (pc : Nat) (ls : Array Slot) (v : Int64), decode bytes pc = .ok (.lreturn, 1) → v = r → W p l e rm s m args below meth c s.heap [] 0 0 Q (F0 m pc ls [.long v])) → W p l e rm s m args below meth c s.heap [] 0 0 Q (F0 m 0 ls [])) :
    Met l y (.code y bytes maxL (some .long) :: zT) rm (zPr G av wr) (k2_QcV (.long r)) 0 0 (fun _ => False) :=
  z_metR hy hlen (fun p e s m args below meth c ls S hr hlocks r hl => body p e s m args below meth c ls _ S r hl (fun pc ls v d hv => by
    subst hv
    exact W.lret S.1 S.2.1 hr (fun t ht _ => ⟨rfl, ht⟩) (fun q h => by cases h) d hlocks))
theorem bI_nar (P : Prop) : narrow .boolean (.int (bI P)) = .int (bI P) := by
  unfold bI
  by_cases h : P
  · rw [if_pos h]; rfl
  · rw [if_neg h]; rfl
theorem z_metRz {P : Prop} (hy : plainName y.cls = true) (hlen : (lg_sl av).length ≤ maxL)
    (body : ∀ (p : Program) (e : Env) (s : State) (m : MethodId) (args : Array Value) (below : List Frame) (meth : Method) (c : Code) (ls : Array Slot) (Q : State → Prop), CallFix p m c bytes maxL s args zT y.cls → zr G s wr s.heap → lv_has ls maxL (lv_args 0 av) → (∀ (pc : Nat) (ls : Array Slot) (v : Int32), decode bytes pc = .ok (.ireturn, 1) → v = bI P → W p l e rm s m args below meth c s.heap [] 0 0 Q (F0 m pc ls [.int v])) → W p l e rm s m args below meth c s.heap [] 0 0 Q (F0 m 0 ls [])) :
    Met l y (.code y bytes maxL (some .boolean) :: zT) rm (zPr G av wr) (k2_QcV (.int (bI P))) 0 0 (fun _ => False) :=
  z_metR hy hlen (fun p e s m args below meth c ls S hr hlocks r hl => body p e s m args below meth c ls _ S r hl (fun pc ls v d hv => by
    subst hv
    exact W.zret S.1 S.2.1 hr (bI_nar P) (fun t ht _ => ⟨rfl, ht⟩) (fun q h => by cases h) d hlocks))
theorem z_metRq {r : Option Nat} {C : String} (hy : plainName y.cls = true) (hlen : (lg_sl av).length ≤ maxL)
    (body : ∀ (p : Program) (e : Env) (s : State) (m : MethodId) (args : Array Value) (below : List Frame) (meth : Method) (c : Code) (ls : Array Slot) (Q : State → Prop), CallFix p m c bytes maxL s args zT y.cls → zr G s wr s.heap → lv_has ls maxL (lv_args 0 av) → (∀ (pc : Nat) (ls : Array Slot) (v : Option Nat), decode bytes pc = .ok (.areturn, 1) → v = r → W p l e rm s m args below meth c s.heap [] 0 0 Q (F0 m pc ls [va_rf v])) → W p l e rm s m args below meth c s.heap [] 0 0 Q (F0 m 0 ls [])) :
    Met l y (.code y bytes maxL (some (.object C)) :: zT) rm (zPr G av wr) (k2_QcV (va_rf r)) 0 0 (fun _ => False) :=
  z_metR hy hlen (fun p e s m args below meth c ls S hr hlocks r hl => body p e s m args below meth c ls _ S r hl (fun pc ls v d hv => by
    subst hv
    exact W.aret S.1 S.2.1 hr (Or.inl ⟨C, rfl⟩) (va_rf_or v) (fun t ht _ => ⟨rfl, ht⟩) (fun q h => by cases h) d hlocks))
variable {Sy : Type} {rz : Sy → Option Value} {w' : Sy → va_W} {post : Sy → Prop} {mc ms sz : Nat}
theorem z_metWv (hy : plainName y.cls = true) (hlen : (lg_sl av).length ≤ maxL)
    (body : ∀ (p : Program) (e : Env) (s : State) (m : MethodId) (args : Array Value) (below : List Frame) (meth : Method) (c : Code) (ls : Array Slot) (A : Nat → Prop) (Q : State → Prop), CallFix p m c bytes maxL s args zT y.cls → meth.name = y.name → zw G A s wc s.heap [] → lv_has ls maxL (lv_args 0 av) → (∀ (pc : Nat) (ls : Array Slot) (H : Heap) (locs : List Loc) (u : Sy) (ws : va_W), zw G A s ws H locs → ws = w' u → post u → decode bytes pc = .ok (.return_, 1) → rz u = none → W p l e rm s m args below meth c H locs mc ms Q (F0 m pc ls [])) → W p l e rm s m args below meth c s.heap [] 0 0 Q (F0 m 0 ls [])) :
    Met l y (.code y bytes maxL none :: zT) rm (zPw G av wc sz) (zQ G rz w' (va_A wc sz) post) mc ms (va_A wc sz) :=
  z_metW hy hlen (fun p e s m args below meth c ls A S hr hlocks hnm w hl => body p e s m args below meth c ls A _ S hnm w hl (fun pc ls H locs u ws w hw hp d hz => by
    subst hw
    exact W.vret S.1 S.2.1 hr (fun t ht _ => ⟨⟨u, by rw [hz], hp, by rw [ht]; exact w.1.2, w.2.1⟩, w.2.2.1.F ht⟩) w.2.2.1.2.2 d hlocks))
theorem z_metWi (hy : plainName y.cls = true) (hlen : (lg_sl av).length ≤ maxL)
    (body : ∀ (p : Program) (e : Env) (s : State) (m : MethodId) (args : Array Value) (below : List Frame) (meth : Method) (c : Code) (ls : Array Slot) (A : Nat → Prop) (Q : State → Prop), CallFix p m c bytes maxL s args zT y.cls → meth.name = y.name → zw G A s wc s.heap [] → lv_has ls maxL (lv_args 0 av) → (∀ (pc : Nat) (ls : Array Slot) (H : Heap) (locs : List Loc) (u : Sy) (ws : va_W) (v : Int32), zw G A s ws H locs → ws = w' u → post u → decode bytes pc = .ok (.ireturn, 1) → rz u = some (.int v) → W p l e rm s m args below meth c H locs mc ms Q (F0 m pc ls [.int v])) → W p l e rm s m args below meth c s.heap [] 0 0 Q (F0 m 0 ls [])) :
    Met l y (.code y bytes maxL (some .int) :: zT) rm (zPw G av wc sz) (zQ G rz w' (va_A wc sz) post) mc ms (va_A wc sz) :=
  z_metW hy hlen (fun p e s m args below meth c ls A S hr hlocks hnm w hl => body p e s m args below meth c ls A _ S hnm w hl (fun pc ls H locs u ws v w hw hp d hz => by
    subst hw
    exact W.iret S.1 S.2.1 hr (fun t ht _ => ⟨⟨u, by rw [hz], hp, by rw [ht]; exact w.1.2, w.2.1⟩, w.2.2.1.F ht⟩) w.2.2.1.2.2 d hlocks))
theorem z_metWz (hy : plainName y.cls = true) (hlen : (lg_sl av).length ≤ maxL)
    (body : ∀ (p : Program) (e : Env) (s : State) (m : MethodId) (args : Array Value) (below : List Frame) (meth : Method) (c : Code) (ls : Array Slot) (A : Nat → Prop) (Q : State → Prop), CallFix p m c bytes maxL s args zT y.cls → meth.name = y.name → zw G A s wc s.heap [] → lv_has ls maxL (lv_args 0 av) → (∀ (pc : Nat) (ls : Array Slot) (H : Heap) (locs : List Loc) (u : Sy) (ws : va_W) (v : Int32), zw G A s ws H locs → ws = w' u → post u → decode bytes pc = .ok (.ireturn, 1) → rz u = some (.int v) → narrow .boolean (.int v) = .int v → W p l e rm s m args below meth c H locs mc ms Q (F0 m pc ls [.int v])) → W p l e rm s m args below meth c s.heap [] 0 0 Q (F0 m 0 ls [])) :
    Met l y (.code y bytes maxL (some .boolean) :: zT) rm (zPw G av wc sz) (zQ G rz w' (va_A wc sz) post) mc ms (va_A wc sz) :=
  z_metW hy hlen (fun p e s m args below meth c ls A S hr hlocks hnm w hl => body p e s m args below meth c ls A _ S hnm w hl (fun pc ls H locs u ws v w hw hp d hz hnr => by
    subst hw
    exact W.zret S.1 S.2.1 hr hnr (fun t ht _ => ⟨⟨u, by rw [hz], hp, by rw [ht]; exact w.1.2, w.2.1⟩, w.2.2.1.F ht⟩) w.2.2.1.2.2 d hlocks))
theorem z_metWl (hy : plainName y.cls = true) (hlen : (lg_sl av).length ≤ maxL)
    (body : ∀ (p : Program) (e : Env) (s : State) (m : MethodId) (args : Array Value) (below : List Frame) (meth : Method) (c : Code) (ls : Array Slot) (A : Nat → Prop) (Q : State → Prop), CallFix p m c bytes maxL s args zT y.cls → meth.name = y.name → zw G A s wc s.heap [] → lv_has ls maxL (lv_args 0 av) → (∀ (pc : Nat) (ls : Array Slot) (H : Heap) (locs : List Loc) (u : Sy) (ws : va_W) (v : Int64), zw G A s ws H locs → ws = w' u → post u → decode bytes pc = .ok (.lreturn, 1) → rz u = some (.long v) → W p l e rm s m args below meth c H locs mc ms Q (F0 m pc ls [.long v])) → W p l e rm s m args below meth c s.heap [] 0 0 Q (F0 m 0 ls [])) :
    Met l y (.code y bytes maxL (some .long) :: zT) rm (zPw G av wc sz) (zQ G rz w' (va_A wc sz) post) mc ms (va_A wc sz) :=
  z_metW hy hlen (fun p e s m args below meth c ls A S hr hlocks hnm w hl => body p e s m args below meth c ls A _ S hnm w hl (fun pc ls H locs u ws v w hw hp d hz => by
    subst hw
    exact W.lret S.1 S.2.1 hr (fun t ht _ => ⟨⟨u, by rw [hz], hp, by rw [ht]; exact w.1.2, w.2.1⟩, w.2.2.1.F ht⟩) w.2.2.1.2.2 d hlocks))
end ZMet
theorem bI_t {P : Prop} (h : P) : nI 1 = bI P := by
  unfold bI
  rw [if_pos h]
  rfl
theorem bI_f {P : Prop} (h : ¬ P) : nI 0 = bI P := by
  unfold bI
  rw [if_neg h]
  rfl
-- numbers from -1 on: mI k is k - 1
def mI (k : Nat) : Int32 := nI k - 1
theorem mI_s (k : Nat) : mI (k + 1) = nI k := by
  unfold mI
  exact nI_pred k
theorem mI_toInt {k : Nat} (h : k < 2 ^ 30) : (mI k).toInt = (k : Int) - 1 := by
  have h1 : mI k = nI k - nI 1 := rfl
  rw [h1, pk_sub_toInt h (by decide)]
  rfl
theorem mI_le {a b : Nat} (ha : a < 2 ^ 30) (hb : b < 2 ^ 30) : mI a ≤ mI b ↔ a ≤ b := by
  rw [Int32.le_iff_toInt_le, mI_toInt ha, mI_toInt hb]
  omega
theorem mI_lt {a b : Nat} (ha : a < 2 ^ 30) (hb : b < 2 ^ 30) : mI a < mI b ↔ a < b := by
  rw [Int32.lt_iff_toInt_lt, mI_toInt ha, mI_toInt hb]
  omega
theorem mI_eq {a b : Nat} (ha : a < 2 ^ 30) (hb : b < 2 ^ 30) : mI a = mI b ↔ a = b := by
  constructor
  · intro h
    have h2 : (mI a).toInt = (mI b).toInt := by rw [h]
    rw [mI_toInt ha, mI_toInt hb] at h2
    omega
  · intro h
    rw [h]
theorem upd_mI (V : Nat → Nat) (k x : Nat) : upd (fun j => mI (V j)) k (mI x) = fun j => mI (va_up V k x j) := by
  funext j
  unfold upd va_up
  by_cases h : j = k <;> simp [h]
section ZMM
variable {p : Program} {l : Launch} {e : Env} {R : Room} {s : State} {m : MethodId} {args : Array Value} {below : List Frame} {meth : Method} {c : Code} {H : Heap} {locs : List Loc} {cells slots : Nat} {Q : State → Prop}
variable {cc : ByteArray} {pc nL : Nat} {ls : Array Slot} {rest : List Value} {G : zG} {A : Nat → Prop} {a : Nat} {ws ws' : va_W}
theorem z_icmpgeMM (hx : p.tables.exec = Jvm.exec) (hb : c.code = cc) {x y : Nat} {off : Int} {tgt : Nat} (h1 : x < 2 ^ 30) (h2 : y < 2 ^ 30) (hdg : decode cc pc = .ok (.if_icmp .ge off, 3)) (ht : (pc : Int) + off = (tgt : Int))
    (kt : y ≤ x → W p l e R s m args below meth c H locs cells slots Q (F0 m tgt ls rest)) (kf : x < y → W p l e R s m args below meth c H locs cells slots Q (F0 m (pc + 3) ls rest)) : W p l e R s m args below meth c H locs cells slots Q (F0 m pc ls (.int (mI y) :: .int (mI x) :: rest)) :=
  lv_icmp_ge hx hb hdg ht (fun q => kt ((mI_le h2 h1).mp q)) (fun q => kf (Nat.lt_of_not_le (fun z => q ((mI_le h2 h1).mpr z))))
theorem z_icmpgeMN (hx : p.tables.exec = Jvm.exec) (hb : c.code = cc) {x y : Nat} {off : Int} {tgt : Nat} (h1 : x < 2 ^ 30) (h2 : y + 1 < 2 ^ 30) (hdg : decode cc pc = .ok (.if_icmp .ge off, 3)) (ht : (pc : Int) + off = (tgt : Int))
    (kt : y + 1 ≤ x → W p l e R s m args below meth c H locs cells slots Q (F0 m tgt ls rest)) (kf : x < y + 1 → W p l e R s m args below meth c H locs cells slots Q (F0 m (pc + 3) ls rest)) : W p l e R s m args below meth c H locs cells slots Q (F0 m pc ls (.int (nI y) :: .int (mI x) :: rest)) := by
  rw [← mI_s y]
  exact z_icmpgeMM hx hb h1 h2 hdg ht kt kf
theorem z_icmpgeNM (hx : p.tables.exec = Jvm.exec) (hb : c.code = cc) {x y : Nat} {off : Int} {tgt : Nat} (h1 : x + 1 < 2 ^ 30) (h2 : y < 2 ^ 30) (hdg : decode cc pc = .ok (.if_icmp .ge off, 3)) (ht : (pc : Int) + off = (tgt : Int))
    (kt : y ≤ x + 1 → W p l e R s m args below meth c H locs cells slots Q (F0 m tgt ls rest)) (kf : x + 1 < y → W p l e R s m args below meth c H locs cells slots Q (F0 m (pc + 3) ls rest)) : W p l e R s m args below meth c H locs cells slots Q (F0 m pc ls (.int (mI y) :: .int (nI x) :: rest)) := by
  rw [← mI_s x]
  exact z_icmpgeMM hx hb h1 h2 hdg ht kt kf
theorem z_icmpltMM (hx : p.tables.exec = Jvm.exec) (hb : c.code = cc) {x y : Nat} {off : Int} {tgt : Nat} (h1 : x < 2 ^ 30) (h2 : y < 2 ^ 30) (hdg : decode cc pc = .ok (.if_icmp .lt off, 3)) (ht : (pc : Int) + off = (tgt : Int))
    (kt : x < y → W p l e R s m args below meth c H locs cells slots Q (F0 m tgt ls rest)) (kf : y ≤ x → W p l e R s m args below meth c H locs cells slots Q (F0 m (pc + 3) ls rest)) : W p l e R s m args below meth c H locs cells slots Q (F0 m pc ls (.int (mI y) :: .int (mI x) :: rest)) :=
  lv_icmp_lt hx hb hdg ht (fun q => kt ((mI_lt h1 h2).mp q)) (fun q => kf (Nat.le_of_not_lt (fun z => q ((mI_lt h1 h2).mpr z))))
theorem z_icmpltMN (hx : p.tables.exec = Jvm.exec) (hb : c.code = cc) {x y : Nat} {off : Int} {tgt : Nat} (h1 : x < 2 ^ 30) (h2 : y + 1 < 2 ^ 30) (hdg : decode cc pc = .ok (.if_icmp .lt off, 3)) (ht : (pc : Int) + off = (tgt : Int))
    (kt : x < y + 1 → W p l e R s m args below meth c H locs cells slots Q (F0 m tgt ls rest)) (kf : y + 1 ≤ x → W p l e R s m args below meth c H locs cells slots Q (F0 m (pc + 3) ls rest)) : W p l e R s m args below meth c H locs cells slots Q (F0 m pc ls (.int (nI y) :: .int (mI x) :: rest)) := by
  rw [← mI_s y]
  exact z_icmpltMM hx hb h1 h2 hdg ht kt kf
theorem z_icmpltNM (hx : p.tables.exec = Jvm.exec) (hb : c.code = cc) {x y : Nat} {off : Int} {tgt : Nat} (h1 : x + 1 < 2 ^ 30) (h2 : y < 2 ^ 30) (hdg : decode cc pc = .ok (.if_icmp .lt off, 3)) (ht : (pc : Int) + off = (tgt : Int))
    (kt : x + 1 < y → W p l e R s m args below meth c H locs cells slots Q (F0 m tgt ls rest)) (kf : y ≤ x + 1 → W p l e R s m args below meth c H locs cells slots Q (F0 m (pc + 3) ls rest)) : W p l e R s m args below meth c H locs cells slots Q (F0 m pc ls (.int (mI y) :: .int (nI x) :: rest)) := by
  rw [← mI_s x]
  exact z_icmpltMM hx hb h1 h2 hdg ht kt kf
theorem z_icmpleMM (hx : p.tables.exec = Jvm.exec) (hb : c.code = cc) {x y : Nat} {off : Int} {tgt : Nat} (h1 : x < 2 ^ 30) (h2 : y < 2 ^ 30) (hdg : decode cc pc = .ok (.if_icmp .le off, 3)) (ht : (pc : Int) + off = (tgt : Int))
    (kt : x ≤ y → W p l e R s m args below meth c H locs cells slots Q (F0 m tgt ls rest)) (kf : y < x → W p l e R s m args below meth c H locs cells slots Q (F0 m (pc + 3) ls rest)) : W p l e R s m args below meth c H locs cells slots Q (F0 m pc ls (.int (mI y) :: .int (mI x) :: rest)) :=
  lv_icmp_le hx hb hdg ht (fun q => kt ((mI_le h1 h2).mp q)) (fun q => kf (Nat.lt_of_not_le (fun z => q ((mI_le h1 h2).mpr z))))
theorem z_icmpleMN (hx : p.tables.exec = Jvm.exec) (hb : c.code = cc) {x y : Nat} {off : Int} {tgt : Nat} (h1 : x < 2 ^ 30) (h2 : y + 1 < 2 ^ 30) (hdg : decode cc pc = .ok (.if_icmp .le off, 3)) (ht : (pc : Int) + off = (tgt : Int))
    (kt : x ≤ y + 1 → W p l e R s m args below meth c H locs cells slots Q (F0 m tgt ls rest)) (kf : y + 1 < x → W p l e R s m args below meth c H locs cells slots Q (F0 m (pc + 3) ls rest)) : W p l e R s m args below meth c H locs cells slots Q (F0 m pc ls (.int (nI y) :: .int (mI x) :: rest)) := by
  rw [← mI_s y]
  exact z_icmpleMM hx hb h1 h2 hdg ht kt kf
theorem z_icmpleNM (hx : p.tables.exec = Jvm.exec) (hb : c.code = cc) {x y : Nat} {off : Int} {tgt : Nat} (h1 : x + 1 < 2 ^ 30) (h2 : y < 2 ^ 30) (hdg : decode cc pc = .ok (.if_icmp .le off, 3)) (ht : (pc : Int) + off = (tgt : Int))
    (kt : x + 1 ≤ y → W p l e R s m args below meth c H locs cells slots Q (F0 m tgt ls rest)) (kf : y < x + 1 → W p l e R s m args below meth c H locs cells slots Q (F0 m (pc + 3) ls rest)) : W p l e R s m args below meth c H locs cells slots Q (F0 m pc ls (.int (mI y) :: .int (nI x) :: rest)) := by
  rw [← mI_s x]
  exact z_icmpleMM hx hb h1 h2 hdg ht kt kf
theorem z_icmpgtMM (hx : p.tables.exec = Jvm.exec) (hb : c.code = cc) {x y : Nat} {off : Int} {tgt : Nat} (h1 : x < 2 ^ 30) (h2 : y < 2 ^ 30) (hdg : decode cc pc = .ok (.if_icmp .gt off, 3)) (ht : (pc : Int) + off = (tgt : Int))
    (kt : y < x → W p l e R s m args below meth c H locs cells slots Q (F0 m tgt ls rest)) (kf : x ≤ y → W p l e R s m args below meth c H locs cells slots Q (F0 m (pc + 3) ls rest)) : W p l e R s m args below meth c H locs cells slots Q (F0 m pc ls (.int (mI y) :: .int (mI x) :: rest)) :=
  lv_icmp_gt hx hb hdg ht (fun q => kt ((mI_lt h2 h1).mp q)) (fun q => kf (Nat.le_of_not_lt (fun z => q ((mI_lt h2 h1).mpr z))))
theorem z_icmpgtMN (hx : p.tables.exec = Jvm.exec) (hb : c.code = cc) {x y : Nat} {off : Int} {tgt : Nat} (h1 : x < 2 ^ 30) (h2 : y + 1 < 2 ^ 30) (hdg : decode cc pc = .ok (.if_icmp .gt off, 3)) (ht : (pc : Int) + off = (tgt : Int))
    (kt : y + 1 < x → W p l e R s m args below meth c H locs cells slots Q (F0 m tgt ls rest)) (kf : x ≤ y + 1 → W p l e R s m args below meth c H locs cells slots Q (F0 m (pc + 3) ls rest)) : W p l e R s m args below meth c H locs cells slots Q (F0 m pc ls (.int (nI y) :: .int (mI x) :: rest)) := by
  rw [← mI_s y]
  exact z_icmpgtMM hx hb h1 h2 hdg ht kt kf
theorem z_icmpgtNM (hx : p.tables.exec = Jvm.exec) (hb : c.code = cc) {x y : Nat} {off : Int} {tgt : Nat} (h1 : x + 1 < 2 ^ 30) (h2 : y < 2 ^ 30) (hdg : decode cc pc = .ok (.if_icmp .gt off, 3)) (ht : (pc : Int) + off = (tgt : Int))
    (kt : y < x + 1 → W p l e R s m args below meth c H locs cells slots Q (F0 m tgt ls rest)) (kf : x + 1 ≤ y → W p l e R s m args below meth c H locs cells slots Q (F0 m (pc + 3) ls rest)) : W p l e R s m args below meth c H locs cells slots Q (F0 m pc ls (.int (mI y) :: .int (nI x) :: rest)) := by
  rw [← mI_s x]
  exact z_icmpgtMM hx hb h1 h2 hdg ht kt kf
theorem z_icmpeqMM (hx : p.tables.exec = Jvm.exec) (hb : c.code = cc) {x y : Nat} {off : Int} {tgt : Nat} (h1 : x < 2 ^ 30) (h2 : y < 2 ^ 30) (hdg : decode cc pc = .ok (.if_icmp .eq off, 3)) (ht : (pc : Int) + off = (tgt : Int))
    (kt : x = y → W p l e R s m args below meth c H locs cells slots Q (F0 m tgt ls rest)) (kf : x ≠ y → W p l e R s m args below meth c H locs cells slots Q (F0 m (pc + 3) ls rest)) : W p l e R s m args below meth c H locs cells slots Q (F0 m pc ls (.int (mI y) :: .int (mI x) :: rest)) :=
  lv_icmp_eq hx hb hdg ht (fun q => kt ((mI_eq h1 h2).mp q)) (fun q => kf (fun z => q ((mI_eq h1 h2).mpr z)))
theorem z_icmpeqMN (hx : p.tables.exec = Jvm.exec) (hb : c.code = cc) {x y : Nat} {off : Int} {tgt : Nat} (h1 : x < 2 ^ 30) (h2 : y + 1 < 2 ^ 30) (hdg : decode cc pc = .ok (.if_icmp .eq off, 3)) (ht : (pc : Int) + off = (tgt : Int))
    (kt : x = y + 1 → W p l e R s m args below meth c H locs cells slots Q (F0 m tgt ls rest)) (kf : x ≠ y + 1 → W p l e R s m args below meth c H locs cells slots Q (F0 m (pc + 3) ls rest)) : W p l e R s m args below meth c H locs cells slots Q (F0 m pc ls (.int (nI y) :: .int (mI x) :: rest)) := by
  rw [← mI_s y]
  exact z_icmpeqMM hx hb h1 h2 hdg ht kt kf
theorem z_icmpeqNM (hx : p.tables.exec = Jvm.exec) (hb : c.code = cc) {x y : Nat} {off : Int} {tgt : Nat} (h1 : x + 1 < 2 ^ 30) (h2 : y < 2 ^ 30) (hdg : decode cc pc = .ok (.if_icmp .eq off, 3)) (ht : (pc : Int) + off = (tgt : Int))
    (kt : x + 1 = y → W p l e R s m args below meth c H locs cells slots Q (F0 m tgt ls rest)) (kf : x + 1 ≠ y → W p l e R s m args below meth c H locs cells slots Q (F0 m (pc + 3) ls rest)) : W p l e R s m args below meth c H locs cells slots Q (F0 m pc ls (.int (mI y) :: .int (nI x) :: rest)) := by
  rw [← mI_s x]
  exact z_icmpeqMM hx hb h1 h2 hdg ht kt kf
theorem z_icmpneMM (hx : p.tables.exec = Jvm.exec) (hb : c.code = cc) {x y : Nat} {off : Int} {tgt : Nat} (h1 : x < 2 ^ 30) (h2 : y < 2 ^ 30) (hdg : decode cc pc = .ok (.if_icmp .ne off, 3)) (ht : (pc : Int) + off = (tgt : Int))
    (kt : x ≠ y → W p l e R s m args below meth c H locs cells slots Q (F0 m tgt ls rest)) (kf : x = y → W p l e R s m args below meth c H locs cells slots Q (F0 m (pc + 3) ls rest)) : W p l e R s m args below meth c H locs cells slots Q (F0 m pc ls (.int (mI y) :: .int (mI x) :: rest)) :=
  lv_icmp_ne hx hb hdg ht (fun q => kt (fun z => q ((mI_eq h1 h2).mpr z))) (fun q => kf ((mI_eq h1 h2).mp q))
theorem z_icmpneMN (hx : p.tables.exec = Jvm.exec) (hb : c.code = cc) {x y : Nat} {off : Int} {tgt : Nat} (h1 : x < 2 ^ 30) (h2 : y + 1 < 2 ^ 30) (hdg : decode cc pc = .ok (.if_icmp .ne off, 3)) (ht : (pc : Int) + off = (tgt : Int))
    (kt : x ≠ y + 1 → W p l e R s m args below meth c H locs cells slots Q (F0 m tgt ls rest)) (kf : x = y + 1 → W p l e R s m args below meth c H locs cells slots Q (F0 m (pc + 3) ls rest)) : W p l e R s m args below meth c H locs cells slots Q (F0 m pc ls (.int (nI y) :: .int (mI x) :: rest)) := by
  rw [← mI_s y]
  exact z_icmpneMM hx hb h1 h2 hdg ht kt kf
theorem z_icmpneNM (hx : p.tables.exec = Jvm.exec) (hb : c.code = cc) {x y : Nat} {off : Int} {tgt : Nat} (h1 : x + 1 < 2 ^ 30) (h2 : y < 2 ^ 30) (hdg : decode cc pc = .ok (.if_icmp .ne off, 3)) (ht : (pc : Int) + off = (tgt : Int))
    (kt : x + 1 ≠ y → W p l e R s m args below meth c H locs cells slots Q (F0 m tgt ls rest)) (kf : x + 1 = y → W p l e R s m args below meth c H locs cells slots Q (F0 m (pc + 3) ls rest)) : W p l e R s m args below meth c H locs cells slots Q (F0 m pc ls (.int (mI y) :: .int (nI x) :: rest)) := by
  rw [← mI_s x]
  exact z_icmpneMM hx hb h1 h2 hdg ht kt kf
theorem z_iastM (hx : p.tables.exec = Jvm.exec) (hb : c.code = cc) (w : zw G A s ws H locs) (q0 : Nat) {n k x : Nat} {V : Nat → Nat} (ha : ws[q0]? = some (a, zI G n (fun j => mI (V j)))) (hk : k < n) (hn : n < 2 ^ 31) (hw : ws.set q0 (a, zI G n (fun j => mI (va_up V k x j))) = ws') (hdg : decode cc pc = .ok (.iastore, 1))
    (kk : ∀ (H1 : Heap) (locs1 : List Loc), zw G A s ws' H1 locs1 → W p l e R s m args below meth c H1 locs1 cells slots Q (F0 m (pc + 1) ls rest)) : W p l e R s m args below meth c H locs cells slots Q (F0 m pc ls (.int (mI x) :: .int (nI k) :: .ref a :: rest)) :=
  z_iast hx hb w q0 ha hk hn (by rw [upd_mI]; exact hw) hdg kk
theorem z_subM (hx : p.tables.exec = Jvm.exec) (hb : c.code = cc) {x : Nat} (hdg : decode cc pc = .ok (.isub, 1)) (k : W p l e R s m args below meth c H locs cells slots Q (F0 m (pc + 1) ls (.int (mI x) :: rest))) : W p l e R s m args below meth c H locs cells slots Q (F0 m pc ls (.int (nI 1) :: .int (nI x) :: rest)) :=
  lv_isub hx hb hdg k
end ZMM
section ZLC
variable {p : Program} {l : Launch} {e : Env} {R : Room} {s : State} {m : MethodId} {args : Array Value} {below : List Frame} {meth : Method} {c : Code} {H : Heap} {locs : List Loc} {cells slots : Nat} {Q : State → Prop}
variable {cc : ByteArray} {pc nL : Nat} {ls : Array Slot} {rest : List Value}
theorem z_lcgeN (hx : p.tables.exec = Jvm.exec) (hb : c.code = cc) {x y : Nat} {off : Int} {tgt : Nat} (h1 : x < 2 ^ 63) (h2 : y < 2 ^ 63) (hdg : decode cc pc = .ok (.ifCond .ge off, 3)) (ht : (pc : Int) + off = (tgt : Int))
    (kt : y ≤ x → W p l e R s m args below meth c H locs cells slots Q (F0 m tgt ls rest)) (kf : x < y → W p l e R s m args below meth c H locs cells slots Q (F0 m (pc + 3) ls rest)) : W p l e R s m args below meth c H locs cells slots Q (F0 m pc ls (.int (lg_cmp (lN x) (lN y)) :: rest)) :=
  lv_if_ge hx hb hdg ht (fun q => kt (((lg_cmp_ge (lN x) (lN y)).trans (pk_lLE h2 h1)).mp q)) (fun q => kf (Nat.lt_of_not_le (fun z => q (((lg_cmp_ge (lN x) (lN y)).trans (pk_lLE h2 h1)).mpr z))))
theorem z_lcltN (hx : p.tables.exec = Jvm.exec) (hb : c.code = cc) {x y : Nat} {off : Int} {tgt : Nat} (h1 : x < 2 ^ 63) (h2 : y < 2 ^ 63) (hdg : decode cc pc = .ok (.ifCond .lt off, 3)) (ht : (pc : Int) + off = (tgt : Int))
    (kt : x < y → W p l e R s m args below meth c H locs cells slots Q (F0 m tgt ls rest)) (kf : y ≤ x → W p l e R s m args below meth c H locs cells slots Q (F0 m (pc + 3) ls rest)) : W p l e R s m args below meth c H locs cells slots Q (F0 m pc ls (.int (lg_cmp (lN x) (lN y)) :: rest)) :=
  lv_if_lt hx hb hdg ht (fun q => kt (((lg_cmp_lt (lN x) (lN y)).trans (pk_lLT h1 h2)).mp q)) (fun q => kf (Nat.le_of_not_lt (fun z => q (((lg_cmp_lt (lN x) (lN y)).trans (pk_lLT h1 h2)).mpr z))))
theorem z_lcleN (hx : p.tables.exec = Jvm.exec) (hb : c.code = cc) {x y : Nat} {off : Int} {tgt : Nat} (h1 : x < 2 ^ 63) (h2 : y < 2 ^ 63) (hdg : decode cc pc = .ok (.ifCond .le off, 3)) (ht : (pc : Int) + off = (tgt : Int))
    (kt : x ≤ y → W p l e R s m args below meth c H locs cells slots Q (F0 m tgt ls rest)) (kf : y < x → W p l e R s m args below meth c H locs cells slots Q (F0 m (pc + 3) ls rest)) : W p l e R s m args below meth c H locs cells slots Q (F0 m pc ls (.int (lg_cmp (lN x) (lN y)) :: rest)) :=
  lv_if_le hx hb hdg ht (fun q => kt (((lg_cmp_le (lN x) (lN y)).trans (pk_lLE h1 h2)).mp q)) (fun q => kf (Nat.lt_of_not_le (fun z => q (((lg_cmp_le (lN x) (lN y)).trans (pk_lLE h1 h2)).mpr z))))
theorem z_lcgtN (hx : p.tables.exec = Jvm.exec) (hb : c.code = cc) {x y : Nat} {off : Int} {tgt : Nat} (h1 : x < 2 ^ 63) (h2 : y < 2 ^ 63) (hdg : decode cc pc = .ok (.ifCond .gt off, 3)) (ht : (pc : Int) + off = (tgt : Int))
    (kt : y < x → W p l e R s m args below meth c H locs cells slots Q (F0 m tgt ls rest)) (kf : x ≤ y → W p l e R s m args below meth c H locs cells slots Q (F0 m (pc + 3) ls rest)) : W p l e R s m args below meth c H locs cells slots Q (F0 m pc ls (.int (lg_cmp (lN x) (lN y)) :: rest)) :=
  lv_if_gt hx hb hdg ht (fun q => kt (((lg_cmp_gt (lN x) (lN y)).trans (pk_lLT h2 h1)).mp q)) (fun q => kf (Nat.le_of_not_lt (fun z => q (((lg_cmp_gt (lN x) (lN y)).trans (pk_lLT h2 h1)).mpr z))))
theorem z_lceqN (hx : p.tables.exec = Jvm.exec) (hb : c.code = cc) {x y : Nat} {off : Int} {tgt : Nat} (h1 : x < 2 ^ 63) (h2 : y < 2 ^ 63) (hdg : decode cc pc = .ok (.ifCond .eq off, 3)) (ht : (pc : Int) + off = (tgt : Int))
    (kt : x = y → W p l e R s m args below meth c H locs cells slots Q (F0 m tgt ls rest)) (kf : x ≠ y → W p l e R s m args below meth c H locs cells slots Q (F0 m (pc + 3) ls rest)) : W p l e R s m args below meth c H locs cells slots Q (F0 m pc ls (.int (lg_cmp (lN x) (lN y)) :: rest)) :=
  lv_if_eq hx hb hdg ht (fun q => kt (((lg_cmp_eq (lN x) (lN y)).trans (pk_lEQ h1 h2)).mp q)) (fun q => kf (fun z => q (((lg_cmp_eq (lN x) (lN y)).trans (pk_lEQ h1 h2)).mpr z)))
theorem z_lcneN (hx : p.tables.exec = Jvm.exec) (hb : c.code = cc) {x y : Nat} {off : Int} {tgt : Nat} (h1 : x < 2 ^ 63) (h2 : y < 2 ^ 63) (hdg : decode cc pc = .ok (.ifCond .ne off, 3)) (ht : (pc : Int) + off = (tgt : Int))
    (kt : x ≠ y → W p l e R s m args below meth c H locs cells slots Q (F0 m tgt ls rest)) (kf : x = y → W p l e R s m args below meth c H locs cells slots Q (F0 m (pc + 3) ls rest)) : W p l e R s m args below meth c H locs cells slots Q (F0 m pc ls (.int (lg_cmp (lN x) (lN y)) :: rest)) :=
  lv_if_ne hx hb hdg ht (fun q => kt (fun z => q (((lg_cmp_eq (lN x) (lN y)).trans (pk_lEQ h1 h2)).mpr z))) (fun q => kf (((lg_cmp_eq (lN x) (lN y)).trans (pk_lEQ h1 h2)).mp q))
end ZLC
