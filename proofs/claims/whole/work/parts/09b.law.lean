-- THE LAW: its script
section LW
variable {p : Program} {l : Launch} {e : Env} {R : Room} {s : State} {m : MethodId} {args : Array Value} {below : List Frame} {meth : Method} {c : Code} {H : Heap} {locs : List Loc} {cells slots : Nat} {Q : State → Prop}
variable {cc : ByteArray} {pc : Nat} {ls : Array Slot} {rest : List Value} {G : zG} {A : Nat → Prop} {ws : va_W}
theorem z_sld (hx : p.tables.exec = Jvm.exec) (hb : c.code = cc) {b L k : Nat} {xs : Nat → Int32} (hX : va_X b L xs s s.heap) (hbl : b < s.heap.size) (hbA : ¬ A b) (w : zw G A s ws H locs) (hk : k < L) (hLb : L ≤ 2048) (hdg : decode cc pc = .ok (.iaload, 1))
    (kk : W p l e R s m args below meth c H locs cells slots Q (F0 m (pc + 1) ls (.int (xs k) :: rest))) : W p l e R s m args below meth c H locs cells slots Q (F0 m pc ls (.int (nI k) :: .ref b :: rest)) :=
  va_sld hx hb hX hbl hbA w.2.2.1 (vp_in_nI hk (by omega)) hdg (by rw [nI_clamp (by omega)]; exact kk)
theorem z_slen (hx : p.tables.exec = Jvm.exec) (hb : c.code = cc) {b L : Nat} {xs : Nat → Int32} (hX : va_X b L xs s s.heap) (hbl : b < s.heap.size) (hbA : ¬ A b) (w : zw G A s ws H locs) (hdg : decode cc pc = .ok (.arraylength, 1))
    (kk : W p l e R s m args below meth c H locs cells slots Q (F0 m (pc + 1) ls (.int (nI L) :: rest))) : W p l e R s m args below meth c H locs cells slots Q (F0 m pc ls (.ref b :: rest)) :=
  va_slen hx hb hX hbl hbA w.2.2.1 hdg kk
end LW
theorem i4_lt {L i : Nat} (hL : L ≤ 2048) (hi : i ≤ 4096) : nI L - nI 4 < nI i ↔ L < i + 4 := by
  have e : nI L - nI 4 = mI (L + 1) - mI 5 + 0 := by rw [mI_s, mI_s, Int32.add_zero]
  have h4 : (nI L - nI 4).toInt = (L : Int) - 4 := by
    rw [Int32.toInt_sub, nI_toInt (by omega), nI_toInt (by decide)]
    rw [Int.bmod_eq_of_le (by omega) (by omega)]
    rfl
  rw [Int32.lt_iff_toInt_lt, h4, nI_toInt (by omega)]
  omega
set_option maxRecDepth 100000 in
theorem law_K {s : State} {args : Array Value} (hts : ∀ w ∈ lw_tbl, w.before args s = true) : ∃ G : zG, va_K G.1 vwCl (zty G) s := by
  obtain ⟨c0, i0, k0⟩ := u_known (C := RFa) (T := TFa) (N := 8) (n := 8) hts inFa (hts (.instantiable RFa 8) (List.mem_of_getElem? (i := 97) (by decide +kernel)))
  obtain ⟨c1, i1, k1⟩ := u_known (C := RFs) (T := TFs) (N := 5) (n := 5) hts inFs (hts (.instantiable RFs 5) (List.mem_of_getElem? (i := 90) (by decide +kernel)))
  obtain ⟨c2, i2, k2⟩ := u_known (C := RGr) (T := TGr) (N := 4) (n := 4) hts inGr (hts (.instantiable RGr 4) (List.mem_of_getElem? (i := 60) (by decide +kernel)))
  obtain ⟨c3, i3, k3⟩ := u_known (C := RSe) (T := TSe) (N := 6) (n := 6) hts inSe (hts (.instantiable RSe 6) (List.mem_of_getElem? (i := 158) (by decide +kernel)))
  obtain ⟨c4, i4, k4⟩ := u_known (C := RSq) (T := TSq) (N := 11) (n := 11) hts inSq (hts (.instantiable RSq 11) (List.mem_of_getElem? (i := 152) (by decide +kernel)))
  obtain ⟨c5, i5, k5⟩ := u_known (C := RWe) (T := TWe) (N := 14) (n := 14) hts inWe (hts (.instantiable RWe 14) (List.mem_of_getElem? (i := 227) (by decide +kernel)))
  obtain ⟨c6, i6, k6⟩ := u_known (C := RTo) (T := TTo) (N := 5) (n := 5) hts inTo (hts (.instantiable RTo 5) (List.mem_of_getElem? (i := 52) (by decide +kernel)))
  obtain ⟨c7, i7, k7⟩ := u_known (C := RMo) (T := TMo) (N := 23) (n := 23) hts inMo (hts (.instantiable RMo 23) (List.mem_of_getElem? (i := 636) (by decide +kernel)))
  obtain ⟨c_int, k_int, p_int, a_int, b_int, d_int⟩ := Cond.arrayClass_spec (hts (.arrayClass .int) (List.mem_filter.mp ka_int).1)
  obtain ⟨c_long, k_long, p_long, a_long, b_long, d_long⟩ := Cond.arrayClass_spec (hts (.arrayClass .long) (List.mem_filter.mp ka_long).1)
  obtain ⟨p_f, c_f, k_f, a_f, -, b_f, d_f, e_f⟩ := Cond.arrayOver_spec (hts (.arrayOver (.object "TableOrders$Factor")) (List.mem_of_getElem? (i := 96) (by decide +kernel)))
  refine ⟨((fun k => if k = 0 then c0 else if k = 1 then c1 else if k = 2 then c2 else if k = 3 then c3 else if k = 4 then c4 else if k = 5 then c5 else if k = 6 then c6 else c7, fun k => if k = 0 then i0 else if k = 1 then i1 else if k = 2 then i2 else if k = 3 then i3 else if k = 4 then i4 else if k = 5 then i5 else if k = 6 then i6 else i7), fun k => if k = 0 then c_int else if k = 1 then c_long else c_f), fun k q hq => ?_, fun k q hq => ?_⟩
  · match k, hq with
    | 0, hq => cases hq; exact k0
    | 1, hq => cases hq; exact k1
    | 2, hq => cases hq; exact k2
    | 3, hq => cases hq; exact k3
    | 4, hq => cases hq; exact k4
    | 5, hq => cases hq; exact k5
    | 6, hq => cases hq; exact k6
    | 7, hq => cases hq; exact k7
    | k + 8, hq => exact absurd hq (by simp [vwCl])
  · match k, hq with
    | 0, hq => cases hq; exact ⟨fun n z => ⟨fun k h => (by cases h), k_int, b_int, p_int, d_int⟩, a_int⟩
    | 1, hq => cases hq; exact ⟨fun n z => ⟨fun k h => (by cases h), k_long, b_long, p_long, d_long⟩, a_long⟩
    | 2, hq => cases hq; exact ⟨fun n z => ⟨fun k h => (by cases h), k_f, b_f, p_f, d_f⟩, k_f, p_f, b_f, d_f, a_f, e_f⟩
    | k + 3, hq => exact absurd hq (by simp)
theorem law_Kn {s : State} {args : Array Value} (hts : ∀ w ∈ lw_tbl, w.before args s = true) : zKn s := ⟨va_AO.of (hts (.arrayOver (.object "TableOrders$Factor")) (List.mem_of_getElem? (i := 96) (by decide +kernel))), va_Nw.of rfl (hts zNest (List.mem_of_getElem? (i := 61) (by decide +kernel))), va_Nw.of rfl (hts zNestF (List.mem_of_getElem? (i := 109) (by decide +kernel)))⟩
