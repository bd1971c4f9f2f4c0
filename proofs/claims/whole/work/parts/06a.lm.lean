-- longs from -1 on: mL k is k - 1
def mL (k : Nat) : Int64 := lN k - 1
theorem mL_s (k : Nat) : mL (k + 1) = lN k := by
  unfold mL
  rw [← lN_1]
  exact Int64.add_sub_cancel (lN k) 1
theorem mL_0 : mL 0 = -1 := by decide
theorem mL_toInt {k : Nat} (h : k < 2 ^ 62) : (mL k).toInt = (k : Int) - 1 := by
  cases k with
  | zero => decide
  | succ k =>
    rw [mL_s, pk_lT (by omega)]
    omega
theorem mL_le {a b : Nat} (ha : a < 2 ^ 62) (hb : b < 2 ^ 62) : mL a ≤ mL b ↔ a ≤ b := by
  rw [Int64.le_iff_toInt_le, mL_toInt ha, mL_toInt hb]
  omega
theorem mL_lt {a b : Nat} (ha : a < 2 ^ 62) (hb : b < 2 ^ 62) : mL a < mL b ↔ a < b := by
  rw [Int64.lt_iff_toInt_lt, mL_toInt ha, mL_toInt hb]
  omega
theorem mL_eq {a b : Nat} (ha : a < 2 ^ 62) (hb : b < 2 ^ 62) : mL a = mL b ↔ a = b := by
  constructor
  · intro h
    have h2 : (mL a).toInt = (mL b).toInt := by rw [h]
    rw [mL_toInt ha, mL_toInt hb] at h2
    omega
  · intro h
    rw [h]
theorem updL_mL (V : Nat → Nat) (k x : Nat) : vp_updL (fun j => mL (V j)) k (mL x) = fun j => mL (va_up V k x j) := by
  funext j
  unfold vp_updL va_up
  by_cases h : j = k <;> simp [h]
theorem mL_add (a b : Nat) : lN a + mL b = mL (a + b) := by
  unfold mL
  rw [← lN_add]
  rw [Int64.sub_eq_add_neg, Int64.sub_eq_add_neg, Int64.add_assoc]
section ZLM
variable {p : Program} {l : Launch} {e : Env} {R : Room} {s : State} {m : MethodId} {args : Array Value} {below : List Frame} {meth : Method} {c : Code} {H : Heap} {locs : List Loc} {cells slots : Nat} {Q : State → Prop}
variable {cc : ByteArray} {pc nL : Nat} {ls : Array Slot} {rest : List Value} {G : zG} {A : Nat → Prop} {a : Nat} {ws ws' : va_W}
theorem z_lastM (hx : p.tables.exec = Jvm.exec) (hb : c.code = cc) (w : zw G A s ws H locs) (q0 : Nat) {n k x : Nat} {V : Nat → Nat} (ha : ws[q0]? = some (a, zL G n (fun j => mL (V j)))) (hk : k < n) (hn : n < 2 ^ 31) (hw : ws.set q0 (a, zL G n (fun j => mL (va_up V k x j))) = ws') (hdg : decode cc pc = .ok (.lastore, 1))
    (kk : ∀ (H1 : Heap) (locs1 : List Loc), zw G A s ws' H1 locs1 → W p l e R s m args below meth c H1 locs1 cells slots Q (F0 m (pc + 1) ls rest)) : W p l e R s m args below meth c H locs cells slots Q (F0 m pc ls (.long (mL x) :: .int (nI k) :: .ref a :: rest)) :=
  z_last hx hb w q0 ha hk hn (by rw [updL_mL]; exact hw) hdg kk
theorem z_laddNM (hx : p.tables.exec = Jvm.exec) (hb : c.code = cc) {x y : Nat} (hdg : decode cc pc = .ok (.ladd, 1)) (k : W p l e R s m args below meth c H locs cells slots Q (F0 m (pc + 1) ls (.long (mL (x + y)) :: rest))) : W p l e R s m args below meth c H locs cells slots Q (F0 m pc ls (.long (mL y) :: .long (lN x) :: rest)) :=
  lv_ladd hx hb hdg (by rw [mL_add]; exact k)
theorem z_lcgeMM (hx : p.tables.exec = Jvm.exec) (hb : c.code = cc) {x y : Nat} {off : Int} {tgt : Nat} (h1 : x < 2 ^ 62) (h2 : y < 2 ^ 62) (hdg : decode cc pc = .ok (.ifCond .ge off, 3)) (ht : (pc : Int) + off = (tgt : Int))
    (kt : y ≤ x → W p l e R s m args below meth c H locs cells slots Q (F0 m tgt ls rest)) (kf : x < y → W p l e R s m args below meth c H locs cells slots Q (F0 m (pc + 3) ls rest)) : W p l e R s m args below meth c H locs cells slots Q (F0 m pc ls (.int (lg_cmp (mL x) (mL y)) :: rest)) :=
  lv_if_ge hx hb hdg ht (fun q => kt (((lg_cmp_ge (mL x) (mL y)).trans (mL_le h2 h1)).mp q)) (fun q => kf (Nat.lt_of_not_le (fun z => q (((lg_cmp_ge (mL x) (mL y)).trans (mL_le h2 h1)).mpr z))))
theorem z_lcgeMN (hx : p.tables.exec = Jvm.exec) (hb : c.code = cc) {x y : Nat} {off : Int} {tgt : Nat} (h1 : x < 2 ^ 62) (h2 : y + 1 < 2 ^ 62) (hdg : decode cc pc = .ok (.ifCond .ge off, 3)) (ht : (pc : Int) + off = (tgt : Int))
    (kt : y + 1 ≤ x → W p l e R s m args below meth c H locs cells slots Q (F0 m tgt ls rest)) (kf : x < y + 1 → W p l e R s m args below meth c H locs cells slots Q (F0 m (pc + 3) ls rest)) : W p l e R s m args below meth c H locs cells slots Q (F0 m pc ls (.int (lg_cmp (mL x) (lN y)) :: rest)) := by
  rw [← mL_s y]
  exact z_lcgeMM hx hb h1 h2 hdg ht kt kf
theorem z_lcltMM (hx : p.tables.exec = Jvm.exec) (hb : c.code = cc) {x y : Nat} {off : Int} {tgt : Nat} (h1 : x < 2 ^ 62) (h2 : y < 2 ^ 62) (hdg : decode cc pc = .ok (.ifCond .lt off, 3)) (ht : (pc : Int) + off = (tgt : Int))
    (kt : x < y → W p l e R s m args below meth c H locs cells slots Q (F0 m tgt ls rest)) (kf : y ≤ x → W p l e R s m args below meth c H locs cells slots Q (F0 m (pc + 3) ls rest)) : W p l e R s m args below meth c H locs cells slots Q (F0 m pc ls (.int (lg_cmp (mL x) (mL y)) :: rest)) :=
  lv_if_lt hx hb hdg ht (fun q => kt (((lg_cmp_lt (mL x) (mL y)).trans (mL_lt h1 h2)).mp q)) (fun q => kf (Nat.le_of_not_lt (fun z => q (((lg_cmp_lt (mL x) (mL y)).trans (mL_lt h1 h2)).mpr z))))
theorem z_lcltMN (hx : p.tables.exec = Jvm.exec) (hb : c.code = cc) {x y : Nat} {off : Int} {tgt : Nat} (h1 : x < 2 ^ 62) (h2 : y + 1 < 2 ^ 62) (hdg : decode cc pc = .ok (.ifCond .lt off, 3)) (ht : (pc : Int) + off = (tgt : Int))
    (kt : x < y + 1 → W p l e R s m args below meth c H locs cells slots Q (F0 m tgt ls rest)) (kf : y + 1 ≤ x → W p l e R s m args below meth c H locs cells slots Q (F0 m (pc + 3) ls rest)) : W p l e R s m args below meth c H locs cells slots Q (F0 m pc ls (.int (lg_cmp (mL x) (lN y)) :: rest)) := by
  rw [← mL_s y]
  exact z_lcltMM hx hb h1 h2 hdg ht kt kf
theorem z_lcleMM (hx : p.tables.exec = Jvm.exec) (hb : c.code = cc) {x y : Nat} {off : Int} {tgt : Nat} (h1 : x < 2 ^ 62) (h2 : y < 2 ^ 62) (hdg : decode cc pc = .ok (.ifCond .le off, 3)) (ht : (pc : Int) + off = (tgt : Int))
    (kt : x ≤ y → W p l e R s m args below meth c H locs cells slots Q (F0 m tgt ls rest)) (kf : y < x → W p l e R s m args below meth c H locs cells slots Q (F0 m (pc + 3) ls rest)) : W p l e R s m args below meth c H locs cells slots Q (F0 m pc ls (.int (lg_cmp (mL x) (mL y)) :: rest)) :=
  lv_if_le hx hb hdg ht (fun q => kt (((lg_cmp_le (mL x) (mL y)).trans (mL_le h1 h2)).mp q)) (fun q => kf (Nat.lt_of_not_le (fun z => q (((lg_cmp_le (mL x) (mL y)).trans (mL_le h1 h2)).mpr z))))
theorem z_lcleMN (hx : p.tables.exec = Jvm.exec) (hb : c.code = cc) {x y : Nat} {off : Int} {tgt : Nat} (h1 : x < 2 ^ 62) (h2 : y + 1 < 2 ^ 62) (hdg : decode cc pc = .ok (.ifCond .le off, 3)) (ht : (pc : Int) + off = (tgt : Int))
    (kt : x ≤ y + 1 → W p l e R s m args below meth c H locs cells slots Q (F0 m tgt ls rest)) (kf : y + 1 < x → W p l e R s m args below meth c H locs cells slots Q (F0 m (pc + 3) ls rest)) : W p l e R s m args below meth c H locs cells slots Q (F0 m pc ls (.int (lg_cmp (mL x) (lN y)) :: rest)) := by
  rw [← mL_s y]
  exact z_lcleMM hx hb h1 h2 hdg ht kt kf
theorem z_lcgtMM (hx : p.tables.exec = Jvm.exec) (hb : c.code = cc) {x y : Nat} {off : Int} {tgt : Nat} (h1 : x < 2 ^ 62) (h2 : y < 2 ^ 62) (hdg : decode cc pc = .ok (.ifCond .gt off, 3)) (ht : (pc : Int) + off = (tgt : Int))
    (kt : y < x → W p l e R s m args below meth c H locs cells slots Q (F0 m tgt ls rest)) (kf : x ≤ y → W p l e R s m args below meth c H locs cells slots Q (F0 m (pc + 3) ls rest)) : W p l e R s m args below meth c H locs cells slots Q (F0 m pc ls (.int (lg_cmp (mL x) (mL y)) :: rest)) :=
  lv_if_gt hx hb hdg ht (fun q => kt (((lg_cmp_gt (mL x) (mL y)).trans (mL_lt h2 h1)).mp q)) (fun q => kf (Nat.le_of_not_lt (fun z => q (((lg_cmp_gt (mL x) (mL y)).trans (mL_lt h2 h1)).mpr z))))
theorem z_lcgtMN (hx : p.tables.exec = Jvm.exec) (hb : c.code = cc) {x y : Nat} {off : Int} {tgt : Nat} (h1 : x < 2 ^ 62) (h2 : y + 1 < 2 ^ 62) (hdg : decode cc pc = .ok (.ifCond .gt off, 3)) (ht : (pc : Int) + off = (tgt : Int))
    (kt : y + 1 < x → W p l e R s m args below meth c H locs cells slots Q (F0 m tgt ls rest)) (kf : x ≤ y + 1 → W p l e R s m args below meth c H locs cells slots Q (F0 m (pc + 3) ls rest)) : W p l e R s m args below meth c H locs cells slots Q (F0 m pc ls (.int (lg_cmp (mL x) (lN y)) :: rest)) := by
  rw [← mL_s y]
  exact z_lcgtMM hx hb h1 h2 hdg ht kt kf
theorem z_lceqMM (hx : p.tables.exec = Jvm.exec) (hb : c.code = cc) {x y : Nat} {off : Int} {tgt : Nat} (h1 : x < 2 ^ 62) (h2 : y < 2 ^ 62) (hdg : decode cc pc = .ok (.ifCond .eq off, 3)) (ht : (pc : Int) + off = (tgt : Int))
    (kt : x = y → W p l e R s m args below meth c H locs cells slots Q (F0 m tgt ls rest)) (kf : x ≠ y → W p l e R s m args below meth c H locs cells slots Q (F0 m (pc + 3) ls rest)) : W p l e R s m args below meth c H locs cells slots Q (F0 m pc ls (.int (lg_cmp (mL x) (mL y)) :: rest)) :=
  lv_if_eq hx hb hdg ht (fun q => kt (((lg_cmp_eq (mL x) (mL y)).trans (mL_eq h1 h2)).mp q)) (fun q => kf (fun z => q (((lg_cmp_eq (mL x) (mL y)).trans (mL_eq h1 h2)).mpr z)))
theorem z_lceqMN (hx : p.tables.exec = Jvm.exec) (hb : c.code = cc) {x y : Nat} {off : Int} {tgt : Nat} (h1 : x < 2 ^ 62) (h2 : y + 1 < 2 ^ 62) (hdg : decode cc pc = .ok (.ifCond .eq off, 3)) (ht : (pc : Int) + off = (tgt : Int))
    (kt : x = y + 1 → W p l e R s m args below meth c H locs cells slots Q (F0 m tgt ls rest)) (kf : x ≠ y + 1 → W p l e R s m args below meth c H locs cells slots Q (F0 m (pc + 3) ls rest)) : W p l e R s m args below meth c H locs cells slots Q (F0 m pc ls (.int (lg_cmp (mL x) (lN y)) :: rest)) := by
  rw [← mL_s y]
  exact z_lceqMM hx hb h1 h2 hdg ht kt kf
theorem z_lcneMM (hx : p.tables.exec = Jvm.exec) (hb : c.code = cc) {x y : Nat} {off : Int} {tgt : Nat} (h1 : x < 2 ^ 62) (h2 : y < 2 ^ 62) (hdg : decode cc pc = .ok (.ifCond .ne off, 3)) (ht : (pc : Int) + off = (tgt : Int))
    (kt : x ≠ y → W p l e R s m args below meth c H locs cells slots Q (F0 m tgt ls rest)) (kf : x = y → W p l e R s m args below meth c H locs cells slots Q (F0 m (pc + 3) ls rest)) : W p l e R s m args below meth c H locs cells slots Q (F0 m pc ls (.int (lg_cmp (mL x) (mL y)) :: rest)) :=
  lv_if_ne hx hb hdg ht (fun q => kt (fun z => q (((lg_cmp_eq (mL x) (mL y)).trans (mL_eq h1 h2)).mpr z))) (fun q => kf (((lg_cmp_eq (mL x) (mL y)).trans (mL_eq h1 h2)).mp q))
theorem z_lcneMN (hx : p.tables.exec = Jvm.exec) (hb : c.code = cc) {x y : Nat} {off : Int} {tgt : Nat} (h1 : x < 2 ^ 62) (h2 : y + 1 < 2 ^ 62) (hdg : decode cc pc = .ok (.ifCond .ne off, 3)) (ht : (pc : Int) + off = (tgt : Int))
    (kt : x ≠ y + 1 → W p l e R s m args below meth c H locs cells slots Q (F0 m tgt ls rest)) (kf : x = y + 1 → W p l e R s m args below meth c H locs cells slots Q (F0 m (pc + 3) ls rest)) : W p l e R s m args below meth c H locs cells slots Q (F0 m pc ls (.int (lg_cmp (mL x) (lN y)) :: rest)) := by
  rw [← mL_s y]
  exact z_lcneMM hx hb h1 h2 hdg ht kt kf
end ZLM
