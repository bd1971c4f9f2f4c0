theorem mI_dec (t : Nat) : nI t + Int32.ofInt (-1) = mI t := by
  unfold mI
  rw [show Int32.ofInt (-1) = -1 by decide, Int32.sub_eq_add_neg]
noncomputable def zif {α : Type} (P : Prop) (a b : α) : α := @ite α P (Classical.propDecidable P) a b
theorem zif_t {α : Type} {P : Prop} {a b : α} (h : P) : zif P a b = a := by
  unfold zif
  rw [if_pos h]
theorem zif_f {α : Type} {P : Prop} {a b : α} (h : ¬ P) : zif P a b = b := by
  unfold zif
  rw [if_neg h]
section ZR6
variable {p : Program} {l : Launch} {e : Env} {R : Room} {s : State} {m : MethodId} {args : Array Value} {below : List Frame} {meth : Method} {c : Code} {H : Heap} {locs : List Loc} {cells slots : Nat} {Q : State → Prop}
variable {cc : ByteArray} {pc nL : Nat} {ls : Array Slot} {rest : List Value}
theorem z_ifltM (hx : p.tables.exec = Jvm.exec) (hb : c.code = cc) {x : Nat} {off : Int} {tgt : Nat} (h1 : x < 2 ^ 30) (hdg : decode cc pc = .ok (.ifCond .lt off, 3)) (ht : (pc : Int) + off = (tgt : Int))
    (kt : x = 0 → W p l e R s m args below meth c H locs cells slots Q (F0 m tgt ls rest)) (kf : x ≠ 0 → W p l e R s m args below meth c H locs cells slots Q (F0 m (pc + 3) ls rest)) : W p l e R s m args below meth c H locs cells slots Q (F0 m pc ls (.int (mI x) :: rest)) := by
  have key : mI x < 0 ↔ x = 0 := by
    rw [Int32.lt_iff_toInt_lt, mI_toInt h1]
    have h0 : (0 : Int32).toInt = 0 := by decide
    rw [h0]
    omega
  exact lv_if_lt hx hb hdg ht (fun q => kt (key.mp q)) (fun q => kf (fun z => q (key.mpr z)))
theorem z_ifleN (hx : p.tables.exec = Jvm.exec) (hb : c.code = cc) {x : Nat} {off : Int} {tgt : Nat} (h1 : x < 2 ^ 31) (hdg : decode cc pc = .ok (.ifCond .le off, 3)) (ht : (pc : Int) + off = (tgt : Int))
    (kt : x = 0 → W p l e R s m args below meth c H locs cells slots Q (F0 m tgt ls rest)) (kf : x ≠ 0 → W p l e R s m args below meth c H locs cells slots Q (F0 m (pc + 3) ls rest)) : W p l e R s m args below meth c H locs cells slots Q (F0 m pc ls (.int (nI x) :: rest)) := by
  have key : nI x ≤ 0 ↔ x = 0 := by
    rw [Int32.le_iff_toInt_le, nI_toInt h1]
    have h0 : (0 : Int32).toInt = 0 := by decide
    rw [h0]
    omega
  exact lv_if_le hx hb hdg ht (fun q => kt (key.mp q)) (fun q => kf (fun z => q (key.mpr z)))
end ZR6
