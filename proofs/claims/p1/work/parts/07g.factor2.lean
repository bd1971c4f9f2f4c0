def rm_Factor_setEntry : Room := { frames := 1, cells := 0, slots := 0, locals := 23 }
set_option maxHeartbeats 4000000 in
set_option maxRecDepth 100000 in
theorem c_Factor_setEntry (l : Launch) (G : zG) (f fn fs fe fp : Nat) (nx : Option Nat) (t : Nat) (cs : Nat) (E P : Nat → Nat) (i v : Nat) (hcs : cs ≤ 256) (ht : t ≤ 3) (hi : i < cs) (sz : Nat) : Met l yFa_setEntry (.code yFa_setEntry cFa_setEntry 4 (some .int) :: zT) rm_Factor_setEntry (zPw G [.ref f, .int (nI i), .int (nI v)] [(f, zO 0 [.ref fn, .ref fs, .ref fe, .ref fp, va_rf nx, .int (nI t)]), (fe, zI G cs (fun j => nI (E j))), (fp, zI G cs (fun j => nI (P j)))] sz) (zQ (S := Unit) G (fun u => some (.int (nI (E i)))) (fun u => [(f, zO 0 [.ref fn, .ref fs, .ref fe, .ref fp, va_rf nx, .int (nI t)]), (fe, zI G cs (fun j => nI ((va_up E i v) j))), (fp, zI G cs (fun j => nI ((va_up P i (v ^ t)) j)))]) (va_A [(f, zO 0 [.ref fn, .ref fs, .ref fe, .ref fp, va_rf nx, .int (nI t)]), (fe, zI G cs (fun j => nI (E j))), (fp, zI G cs (fun j => nI (P j)))] sz) (fun u => True)) 0 0 (va_A [(f, zO 0 [.ref fn, .ref fs, .ref fe, .ref fp, va_rf nx, .int (nI t)]), (fe, zI G cs (fun j => nI (E j))), (fp, zI G cs (fun j => nI (P j)))] sz) := by
  refine z_metWi (by decide) (Nat.le_of_ble_eq_true rfl) (fun p e s m args below meth c ls A Q Sf hnm w hl hret => ?_)
  obtain ⟨H, hH⟩ : ∃ H, H = s.heap := ⟨_, rfl⟩
  obtain ⟨locs, hlo⟩ : ∃ L : List Loc, L = [] := ⟨_, rfl⟩
  rw [← hH, ← hlo] at w
  rw [← hH, ← hlo]
  clear hH hlo
  have Sf : CallFix p m c cFa_setEntry 4 s args zT RFa := Sf
  have hx := Sf.1
  have hb := Sf.2.1
  have hown := Sf.2.2.2.1
  have hts := Sf.2.2.2.2
  have hl : lv_has ls 4 [(0, .ref f), (1, .int (nI i)), (2, .int (nI v))] := hl
  refine lv_aload_n hx hb dFa_setEntry_0 rfl (lv_at hl 0 rfl) ?_
  refine gf_Fa_33 Sf w.1 0 rfl rfl dFa_setEntry_1 ?_
  refine lv_iload_n hx hb dFa_setEntry_4 rfl (lv_at hl 1 rfl) ?_
  refine z_iald hx hb w.1 1 (k := i) rfl (by omega) (by omega) dFa_setEntry_5 ?_
  refine lv_istore_n (lv' := [(3, .int (nI (E i))), (0, .ref f), (1, .int (nI i)), (2, .int (nI v))]) hx hb dFa_setEntry_6 rfl hl (by decide) rfl (fun ls hl => ?_)
  refine lv_aload_n hx hb dFa_setEntry_7 rfl (lv_at hl 1 rfl) ?_
  refine gf_Fa_33 Sf w.1 0 rfl rfl dFa_setEntry_8 ?_
  refine lv_iload_n hx hb dFa_setEntry_11 rfl (lv_at hl 2 rfl) ?_
  refine lv_iload_n hx hb dFa_setEntry_12 rfl (lv_at hl 3 rfl) ?_
  refine z_iastN hx hb w 1 (k := i) rfl (by omega) (by omega) (ws' := [(f, zO 0 [.ref fn, .ref fs, .ref fe, .ref fp, va_rf nx, .int (nI t)]), (fe, zI G cs (fun j => nI ((va_up E i v) j))), (fp, zI G cs (fun j => nI (P j)))]) rfl dFa_setEntry_13 (fun H locs w => ?_)
  refine lv_aload_n hx hb dFa_setEntry_14 rfl (lv_at hl 1 rfl) ?_
  refine gf_Fa_36 Sf w.1 0 rfl rfl dFa_setEntry_15 ?_
  refine lv_iload_n hx hb dFa_setEntry_18 rfl (lv_at hl 2 rfl) ?_
  refine lv_aload_n hx hb dFa_setEntry_19 rfl (lv_at hl 1 rfl) ?_
  refine lv_iload_n hx hb dFa_setEntry_20 rfl (lv_at hl 3 rfl) ?_
  refine z_rV (As := [.int (nI v)]) (rest := [.int (nI i), .ref fp]) Sf (c_Factor_power l G f fn fs fe fp nx t v (by first | assumption | omega)) mv_Fa_49 ⟨rfl, rfl⟩ ⟨Nat.le_of_ble_eq_true rfl, Nat.le_of_ble_eq_true rfl⟩ w.1 [0] rfl 0 rfl rfl rfl rfl hl.1 rfl (Nat.le_of_ble_eq_true rfl) dFa_setEntry_21 ⟨Nat.le_of_ble_eq_true rfl, Nat.le_of_ble_eq_true rfl⟩ ?_
  refine z_iastN hx hb w 2 (k := i) rfl (by omega) (by omega) (ws' := [(f, zO 0 [.ref fn, .ref fs, .ref fe, .ref fp, va_rf nx, .int (nI t)]), (fe, zI G cs (fun j => nI ((va_up E i v) j))), (fp, zI G cs (fun j => nI ((va_up P i (v ^ t)) j)))]) rfl dFa_setEntry_24 (fun H locs w => ?_)
  refine lv_iload_n hx hb dFa_setEntry_25 rfl (lv_at hl 0 rfl) ?_
  exact hret _ _ _ _ () _ _ w (rfl) (trivial) dFa_setEntry_26 (rfl)

def rm_Factor_setTimes : Room := { frames := 1, cells := 0, slots := 0, locals := 23 }
set_option maxHeartbeats 4000000 in
set_option maxRecDepth 100000 in
theorem c_Factor_setTimes (l : Launch) (G : zG) (f fn fs fe fp : Nat) (nx : Option Nat) (t : Nat) (cs : Nat) (E P : Nat → Nat) (n : Nat) (hcs : cs ≤ 256) (hn : n ≤ 3) (sz : Nat) : Met l yFa_setTimes (.code yFa_setTimes cFa_setTimes 4 (some .int) :: zT) rm_Factor_setTimes (zPw G [.ref f, .int (nI n)] [(f, zO 0 [.ref fn, .ref fs, .ref fe, .ref fp, va_rf nx, .int (nI t)]), (fe, zI G cs (fun j => nI (E j))), (fp, zI G cs (fun j => nI (P j)))] sz) (zQ (S := Unit) G (fun u => some (.int (nI t))) (fun u => [(f, zO 0 [.ref fn, .ref fs, .ref fe, .ref fp, va_rf nx, .int (nI n)]), (fe, zI G cs (fun j => nI (E j))), (fp, zI G cs (fun j => nI ((rowF P (fun e => E e ^ n) cs) j)))]) (va_A [(f, zO 0 [.ref fn, .ref fs, .ref fe, .ref fp, va_rf nx, .int (nI t)]), (fe, zI G cs (fun j => nI (E j))), (fp, zI G cs (fun j => nI (P j)))] sz) (fun u => True)) 0 0 (va_A [(f, zO 0 [.ref fn, .ref fs, .ref fe, .ref fp, va_rf nx, .int (nI t)]), (fe, zI G cs (fun j => nI (E j))), (fp, zI G cs (fun j => nI (P j)))] sz) := by
  refine z_metWi (by decide) (Nat.le_of_ble_eq_true rfl) (fun p e s m args below meth c ls A Q Sf hnm w hl hret => ?_)
  obtain ⟨H, hH⟩ : ∃ H, H = s.heap := ⟨_, rfl⟩
  obtain ⟨locs, hlo⟩ : ∃ L : List Loc, L = [] := ⟨_, rfl⟩
  rw [← hH, ← hlo] at w
  rw [← hH, ← hlo]
  clear hH hlo
  have Sf : CallFix p m c cFa_setTimes 4 s args zT RFa := Sf
  have hx := Sf.1
  have hb := Sf.2.1
  have hown := Sf.2.2.2.1
  have hts := Sf.2.2.2.2
  have hl : lv_has ls 4 [(0, .ref f), (1, .int (nI n))] := hl
  refine lv_aload_n hx hb dFa_setTimes_0 rfl (lv_at hl 0 rfl) ?_
  refine gf_Fa_7 Sf w.1 0 rfl rfl dFa_setTimes_1 ?_
  refine lv_istore_n (lv' := [(2, .int (nI t)), (0, .ref f), (1, .int (nI n))]) hx hb dFa_setTimes_4 rfl hl (by decide) rfl (fun ls hl => ?_)
  refine lv_aload_n hx hb dFa_setTimes_5 rfl (lv_at hl 1 rfl) ?_
  refine lv_iload_n hx hb dFa_setTimes_6 rfl (lv_at hl 2 rfl) ?_
  refine pf_Fa_7 Sf w 0 rfl rfl rfl (Nat.le_of_ble_eq_true rfl) (ws' := [(f, zO 0 [.ref fn, .ref fs, .ref fe, .ref fp, va_rf nx, .int (nI n)]), (fe, zI G cs (fun j => nI (E j))), (fp, zI G cs (fun j => nI (P j)))]) rfl dFa_setTimes_7 (fun H locs w => ?_)
  refine lv_iconst (v := (nI 0)) hx hb dFa_setTimes_10 (by decide) ?_
  refine lv_istore_n (lv' := [(3, .int (nI 0)), (2, .int (nI t)), (0, .ref f), (1, .int (nI n))]) hx hb dFa_setTimes_11 rfl hl (by decide) rfl (fun ls hl => ?_)
  have L12 : ∀ (fu12 : Nat) (i : Nat) (F : Nat → Nat), (i ≤ cs) → (F = rowF P (fun e => E e ^ n) i) → (cs - i) < fu12 → ∀ (H : Heap) (locs : List Loc), zw G A s [(f, zO 0 [.ref fn, .ref fs, .ref fe, .ref fp, va_rf nx, .int (nI n)]), (fe, zI G cs (fun j => nI (E j))), (fp, zI G cs (fun j => nI (F j)))] H locs → ∀ (ls : Array Slot), lv_has ls 4 [(3, .int (nI i)), (2, .int (nI t)), (0, .ref f), (1, .int (nI n))] → W p l e rm_Factor_setTimes s m args below meth c H locs 0 0 Q (F0 m 12 ls []) := by
    intro fu12
    induction fu12 with
    | zero =>
      intro i F hi hF hm12
      exact absurd hm12 (Nat.not_lt_zero _)
    | succ fu12 ih12 =>
      intro i F hi hF hm12 H locs w ls hl
      refine lv_iload_n hx hb dFa_setTimes_12 rfl (lv_at hl 0 rfl) ?_
      refine lv_aload_n hx hb dFa_setTimes_13 rfl (lv_at hl 2 rfl) ?_
      refine gf_Fa_33 Sf w.1 0 rfl rfl dFa_setTimes_14 ?_
      refine z_ilen hx hb w.1 1 rfl dFa_setTimes_17 ?_
      refine z_icmpge (tgt := 43) hx hb (by omega) (by omega) dFa_setTimes_18 (by decide) (fun c18 => ?_) (fun c18 => ?_)
      · skip
        refine lv_iload_n hx hb dFa_setTimes_43 rfl (lv_at hl 1 rfl) ?_
        exact hret _ _ _ _ () _ _ w (by rw [hF, show i = cs by omega]) (trivial) dFa_setTimes_44 (rfl)
      · skip
        refine lv_aload_n hx hb dFa_setTimes_21 rfl (lv_at hl 2 rfl) ?_
        refine gf_Fa_36 Sf w.1 0 rfl rfl dFa_setTimes_22 ?_
        refine lv_iload_n hx hb dFa_setTimes_25 rfl (lv_at hl 0 rfl) ?_
        refine lv_aload_n hx hb dFa_setTimes_26 rfl (lv_at hl 2 rfl) ?_
        refine lv_aload_n hx hb dFa_setTimes_27 rfl (lv_at hl 2 rfl) ?_
        refine gf_Fa_33 Sf w.1 0 rfl rfl dFa_setTimes_28 ?_
        refine lv_iload_n hx hb dFa_setTimes_31 rfl (lv_at hl 0 rfl) ?_
        refine z_iald hx hb w.1 1 (k := i) rfl (by omega) (by omega) dFa_setTimes_32 ?_
        refine z_rV (As := [.int (nI (E i))]) (rest := [.int (nI i), .ref fp]) Sf (c_Factor_power l G f fn fs fe fp nx n (E i) (by first | assumption | omega)) mv_Fa_49 ⟨rfl, rfl⟩ ⟨Nat.le_of_ble_eq_true rfl, Nat.le_of_ble_eq_true rfl⟩ w.1 [0] rfl 0 rfl rfl rfl rfl hl.1 rfl (Nat.le_of_ble_eq_true rfl) dFa_setTimes_33 ⟨Nat.le_of_ble_eq_true rfl, Nat.le_of_ble_eq_true rfl⟩ ?_
        refine z_iastN hx hb w 2 (k := i) rfl (by omega) (by omega) (ws' := [(f, zO 0 [.ref fn, .ref fs, .ref fe, .ref fp, va_rf nx, .int (nI n)]), (fe, zI G cs (fun j => nI (E j))), (fp, zI G cs (fun j => nI ((va_up F i ((E i) ^ n)) j)))]) rfl dFa_setTimes_36 (fun H locs w => ?_)
        refine z_iinc (d := 1) (lv' := [(3, .int (nI (i + 1))), (2, .int (nI t)), (0, .ref f), (1, .int (nI n))]) hx hb dFa_setTimes_37 hl (k := 0) rfl (by decide) (by decide) rfl (fun ls hl => ?_)
        refine lv_goto (tgt := 12) hx hb dFa_setTimes_40 (by decide) ?_
        refine ih12 (i + 1) (va_up F i ((E i) ^ n)) ?_ ?_ ?_ _ _ w ls (lv_sub hl [0, 1, 2, 3] rfl)
        · omega
        · rw [hF]; exact rowF_s _ (fun e => E e ^ n) i
        · omega
  refine L12 ((cs - 0) + 1) 0 P ?_ ?_ ?_ _ _ w ls (lv_sub hl [0, 1, 2, 3] rfl)
  · omega
  · exact (rowF_0 _ _).symm
  · exact Nat.lt_succ_self _

def rm_Factor_multiply : Room := { frames := 1, cells := 0, slots := 0, locals := 23 }
set_option maxHeartbeats 4000000 in
set_option maxRecDepth 100000 in
theorem c_Factor_multiply (l : Launch) (G : zG) (f fn fs fe fp : Nat) (nx : Option Nat) (t : Nat) (k cs : Nat) (nm sp P C Pr : Nat → Nat) (ch pr fr cnt : Nat) (hcs : cs ≤ 256) (hk : 0 < k ∧ k ≤ 4) (hnm0 : ∀ i, i < k → nm i < 12) (hfr : fr + cnt ≤ 48) (hP : ∀ i, P i ≤ 343) (he : ∀ v, v < cnt → entF nm sp C k + v * sp (k - 1) < cs) (sz : Nat) : Met l yFa_multiply (.code yFa_multiply cFa_multiply 8 none :: zT) rm_Factor_multiply (zPw G [.ref f, .ref pr, .int (nI fr), .int (nI cnt), .ref ch] [(f, zO 0 [.ref fn, .ref fs, .ref fe, .ref fp, va_rf nx, .int (nI t)]), (fn, zI G k (fun j => nI (nm j))), (fs, zI G k (fun j => nI (sp j))), (ch, zI G 12 (fun j => nI (C j))), (fp, zI G cs (fun j => nI (P j))), (pr, zL G 48 (fun j => lN (Pr j)))] sz) (zQ (S := Unit) G (fun u => none) (fun u => [(f, zO 0 [.ref fn, .ref fs, .ref fe, .ref fp, va_rf nx, .int (nI t)]), (fn, zI G k (fun j => nI (nm j))), (fs, zI G k (fun j => nI (sp j))), (ch, zI G 12 (fun j => nI (C j))), (fp, zI G cs (fun j => nI (P j))), (pr, zL G 48 (fun j => lN ((mulF Pr P fr (entF nm sp C k) (sp (k - 1)) cnt) j)))]) (va_A [(f, zO 0 [.ref fn, .ref fs, .ref fe, .ref fp, va_rf nx, .int (nI t)]), (fn, zI G k (fun j => nI (nm j))), (fs, zI G k (fun j => nI (sp j))), (ch, zI G 12 (fun j => nI (C j))), (fp, zI G cs (fun j => nI (P j))), (pr, zL G 48 (fun j => lN (Pr j)))] sz) (fun u => True)) 0 0 (va_A [(f, zO 0 [.ref fn, .ref fs, .ref fe, .ref fp, va_rf nx, .int (nI t)]), (fn, zI G k (fun j => nI (nm j))), (fs, zI G k (fun j => nI (sp j))), (ch, zI G 12 (fun j => nI (C j))), (fp, zI G cs (fun j => nI (P j))), (pr, zL G 48 (fun j => lN (Pr j)))] sz) := by
  refine z_metWv (by decide) (Nat.le_of_ble_eq_true rfl) (fun p e s m args below meth c ls A Q Sf hnm w hl hret => ?_)
  obtain ⟨H, hH⟩ : ∃ H, H = s.heap := ⟨_, rfl⟩
  obtain ⟨locs, hlo⟩ : ∃ L : List Loc, L = [] := ⟨_, rfl⟩
  rw [← hH, ← hlo] at w
  rw [← hH, ← hlo]
  clear hH hlo
  have Sf : CallFix p m c cFa_multiply 8 s args zT RFa := Sf
  have hx := Sf.1
  have hb := Sf.2.1
  have hown := Sf.2.2.2.1
  have hts := Sf.2.2.2.2
  have hl : lv_has ls 8 [(0, .ref f), (1, .ref pr), (2, .int (nI fr)), (3, .int (nI cnt)), (4, .ref ch)] := hl
  refine lv_aload_n hx hb dFa_multiply_0 rfl (lv_at hl 0 rfl) ?_
  refine gf_Fa_23 Sf w.1 0 rfl rfl dFa_multiply_1 ?_
  refine z_ilen hx hb w.1 2 rfl dFa_multiply_4 ?_
  refine z_ifneN (tgt := 12) hx hb (by omega) dFa_multiply_5 (by decide) (fun c5 => ?_) (fun c5 => ?_)
  · skip
    refine lv_aload_n hx hb dFa_multiply_12 rfl (lv_at hl 0 rfl) ?_
    refine gf_Fa_23 Sf w.1 0 rfl rfl dFa_multiply_13 ?_
    refine lv_aload_n hx hb dFa_multiply_16 rfl (lv_at hl 0 rfl) ?_
    refine gf_Fa_23 Sf w.1 0 rfl rfl dFa_multiply_17 ?_
    refine z_ilen hx hb w.1 2 rfl dFa_multiply_20 ?_
    refine lv_iconst (v := (nI 1)) hx hb dFa_multiply_21 (by decide) ?_
    refine z_subN hx hb (by omega) dFa_multiply_22 ?_
    refine z_iald hx hb w.1 2 (k := (k - 1)) rfl (by omega) (by omega) dFa_multiply_23 ?_
    refine lv_istore (lv' := [(5, .int (nI (sp (k - 1)))), (0, .ref f), (1, .ref pr), (2, .int (nI fr)), (3, .int (nI cnt)), (4, .ref ch)]) hx hb dFa_multiply_24 hl (by decide) rfl (fun ls hl => ?_)
    refine lv_aload_n hx hb dFa_multiply_26 rfl (lv_at hl 1 rfl) ?_
    refine lv_aload hx hb dFa_multiply_27 (lv_at hl 5 rfl) ?_
    refine z_rV (As := [.ref ch]) (rest := []) Sf (c_Factor_entryAt l G f fn fs fe fp nx t k nm sp C ch hk.2 (by first | assumption | omega)) mv_Fa_52 ⟨rfl, rfl⟩ ⟨Nat.le_of_ble_eq_true rfl, Nat.le_of_ble_eq_true rfl⟩ w.1 [0, 1, 2, 3] rfl 0 rfl rfl rfl rfl hl.1 rfl (Nat.le_of_ble_eq_true rfl) dFa_multiply_29 ⟨Nat.le_of_ble_eq_true rfl, Nat.le_of_ble_eq_true rfl⟩ ?_
    refine lv_istore (lv' := [(6, .int (nI (entF nm sp C k))), (5, .int (nI (sp (k - 1)))), (0, .ref f), (1, .ref pr), (2, .int (nI fr)), (3, .int (nI cnt)), (4, .ref ch)]) hx hb dFa_multiply_32 hl (by decide) rfl (fun ls hl => ?_)
    refine lv_iconst (v := (nI 0)) hx hb dFa_multiply_34 (by decide) ?_
    refine lv_istore (lv' := [(7, .int (nI 0)), (6, .int (nI (entF nm sp C k))), (5, .int (nI (sp (k - 1)))), (0, .ref f), (1, .ref pr), (2, .int (nI fr)), (3, .int (nI cnt)), (4, .ref ch)]) hx hb dFa_multiply_35 hl (by decide) rfl (fun ls hl => ?_)
    have L37 : ∀ (fu37 : Nat) (v x : Nat) (F : Nat → Nat), (v ≤ cnt) → (x = entF nm sp C k + v * sp (k - 1)) → (F = mulF Pr P fr (entF nm sp C k) (sp (k - 1)) v) → (cnt - v) < fu37 → ∀ (H : Heap) (locs : List Loc), zw G A s [(f, zO 0 [.ref fn, .ref fs, .ref fe, .ref fp, va_rf nx, .int (nI t)]), (fn, zI G k (fun j => nI (nm j))), (fs, zI G k (fun j => nI (sp j))), (ch, zI G 12 (fun j => nI (C j))), (fp, zI G cs (fun j => nI (P j))), (pr, zL G 48 (fun j => lN (F j)))] H locs → ∀ (ls : Array Slot), lv_has ls 8 [(7, .int (nI v)), (6, .int (nI x)), (5, .int (nI (sp (k - 1)))), (0, .ref f), (1, .ref pr), (2, .int (nI fr)), (3, .int (nI cnt)), (4, .ref ch)] → W p l e rm_Factor_multiply s m args below meth c H locs 0 0 Q (F0 m 37 ls []) := by
      intro fu37
      induction fu37 with
      | zero =>
        intro v x F hv hx0 hF hm37
        exact absurd hm37 (Nat.not_lt_zero _)
      | succ fu37 ih37 =>
        intro v x F hv hx0 hF hm37 H locs w ls hl
        refine lv_iload hx hb dFa_multiply_37 (lv_at hl 0 rfl) ?_
        refine lv_iload_n hx hb dFa_multiply_39 rfl (lv_at hl 6 rfl) ?_
        refine z_icmpge (tgt := 83) hx hb (by omega) (by omega) dFa_multiply_40 (by decide) (fun c40 => ?_) (fun c40 => ?_)
        · skip
          exact hret _ _ _ _ () _ w (by rw [hF, show v = cnt by omega]) (trivial) dFa_multiply_83 rfl
        · skip
          have he2 := he v (by omega)
          refine lv_iload hx hb dFa_multiply_43 (lv_at hl 1 rfl) ?_
          refine lv_aload_n hx hb dFa_multiply_45 rfl (lv_at hl 3 rfl) ?_
          refine gf_Fa_36 Sf w.1 0 rfl rfl dFa_multiply_46 ?_
          refine z_ilen hx hb w.1 4 rfl dFa_multiply_49 ?_
          refine z_icmpge (tgt := 83) hx hb (by omega) (by omega) dFa_multiply_50 (by decide) (fun c50 => ?_) (fun c50 => ?_)
          · skip
            exact absurd c50 (by have := he v (by omega); omega)
          · skip
            refine lv_aload_n hx hb dFa_multiply_53 rfl (lv_at hl 4 rfl) ?_
            refine lv_iload_n hx hb dFa_multiply_54 rfl (lv_at hl 5 rfl) ?_
            refine lv_iload hx hb dFa_multiply_55 (lv_at hl 0 rfl) ?_
            refine z_addN hx hb dFa_multiply_57 ?_
            refine lv_dup2_11 hx hb dFa_multiply_58 rfl rfl ?_
            refine z_lald hx hb w.1 5 (k := (fr + v)) rfl (by omega) (by omega) dFa_multiply_59 ?_
            refine lv_aload_n hx hb dFa_multiply_60 rfl (lv_at hl 3 rfl) ?_
            refine gf_Fa_36 Sf w.1 0 rfl rfl dFa_multiply_61 ?_
            refine lv_iload hx hb dFa_multiply_64 (lv_at hl 1 rfl) ?_
            refine z_iald hx hb w.1 4 (k := x) rfl (by omega) (by omega) dFa_multiply_66 ?_
            refine lv_i2l (v := lN (P x)) hx hb dFa_multiply_67 (nI_l (Nat.lt_of_le_of_lt (hP _) (by decide))) ?_
            refine z_lmulN hx hb dFa_multiply_68 ?_
            refine z_lastN hx hb w 5 (k := (fr + v)) rfl (by omega) (by omega) (ws' := [(f, zO 0 [.ref fn, .ref fs, .ref fe, .ref fp, va_rf nx, .int (nI t)]), (fn, zI G k (fun j => nI (nm j))), (fs, zI G k (fun j => nI (sp j))), (ch, zI G 12 (fun j => nI (C j))), (fp, zI G cs (fun j => nI (P j))), (pr, zL G 48 (fun j => lN ((va_up F (fr + v) ((F (fr + v)) * (P x))) j)))]) rfl dFa_multiply_69 (fun H locs w => ?_)
            refine lv_iload hx hb dFa_multiply_70 (lv_at hl 1 rfl) ?_
            refine lv_iload hx hb dFa_multiply_72 (lv_at hl 2 rfl) ?_
            refine z_addN hx hb dFa_multiply_74 ?_
            refine lv_istore (lv' := [(6, .int (nI (x + (sp (k - 1))))), (7, .int (nI v)), (5, .int (nI (sp (k - 1)))), (0, .ref f), (1, .ref pr), (2, .int (nI fr)), (3, .int (nI cnt)), (4, .ref ch)]) hx hb dFa_multiply_75 hl (by decide) rfl (fun ls hl => ?_)
            refine z_iinc (d := 1) (lv' := [(7, .int (nI (v + 1))), (6, .int (nI (x + (sp (k - 1))))), (5, .int (nI (sp (k - 1)))), (0, .ref f), (1, .ref pr), (2, .int (nI fr)), (3, .int (nI cnt)), (4, .ref ch)]) hx hb dFa_multiply_77 hl (k := 1) rfl (by decide) (by decide) rfl (fun ls hl => ?_)
            refine lv_goto (tgt := 37) hx hb dFa_multiply_80 (by decide) ?_
            refine ih37 (v + 1) (x + (sp (k - 1))) (va_up F (fr + v) ((F (fr + v)) * (P x))) ?_ ?_ ?_ ?_ _ _ w ls (lv_sub hl [0, 1, 2, 3, 4, 5, 6, 7] rfl)
            · omega
            · rw [hx0, Nat.add_mul, Nat.one_mul, Nat.add_assoc]
            · rw [hF, mulF_at, hx0]; exact mulF_s _ _ _ _ _ _
            · omega
    refine L37 ((cnt - 0) + 1) 0 (entF nm sp C k) Pr ?_ ?_ ?_ ?_ _ _ w ls (lv_sub hl [0, 1, 2, 3, 4, 5, 6, 7] rfl)
    · omega
    · rw [Nat.zero_mul, Nat.add_zero]
    · exact (mulF_0 _ _ _ _ _).symm
    · exact Nat.lt_succ_self _
  · skip
    exact absurd c5 (by omega)

def rm_dummy0 : Nat := 0
def rm_Factor_initN : Room := { frames := 1, cells := 4, slots := 520, locals := 40 }
set_option maxHeartbeats 4000000 in
set_option maxRecDepth 100000 in
theorem c_Factor_initN (l : Launch) (G : zG) (f : Nat) (g av an : Nat) (n : Nat) (st : Int32) (V : Nat → Nat) (S : Nat) (hn : n ≤ 12) (hS : S < 4096) (hp4 : popc S ≤ 4) (hc4 : cellsF V S n ≤ 256) (sz : Nat) : Met l yFa_init (.code yFa_init cFa_init 7 none :: zT) rm_Factor_initN (zPw G [.ref f, .int (nI S), .ref g, .null] [(f, zO 0 [.null, .null, .null, .null, .null, .int (nI 0)]), (g, zO 2 [.ref av, .ref an, .int (nI n), .int st]), (av, zI G 12 (fun j => nI (V j)))] sz) (zQ (S := Nat × Nat × Nat × Nat) G (fun u => none) (fun u => [(f, zO 0 [.ref u.1, .ref u.2.1, .ref u.2.2.1, .ref u.2.2.2, .null, .int (nI 1)]), (g, zO 2 [.ref av, .ref an, .int (nI n), .int st]), (av, zI G 12 (fun j => nI (V j))), (u.1, zI G (popc S) (fun j => nI (((fiR V S n).2.1) j))), (u.2.1, zI G (popc S) (fun j => nI (((fiR V S n).2.2) j))), (u.2.2.1, zI G (cellsF V S n) (fun j => nI ((rowF (fun _ => 0) (fun _ => 1) (cellsF V S n)) j))), (u.2.2.2, zI G (cellsF V S n) (fun j => nI ((rowF (fun _ => 0) (fun _ => 1) (cellsF V S n)) j)))]) (va_A [(f, zO 0 [.null, .null, .null, .null, .null, .int (nI 0)]), (g, zO 2 [.ref av, .ref an, .int (nI n), .int st]), (av, zI G 12 (fun j => nI (V j)))] sz) (fun u => True)) 4 520 (va_A [(f, zO 0 [.null, .null, .null, .null, .null, .int (nI 0)]), (g, zO 2 [.ref av, .ref an, .int (nI n), .int st]), (av, zI G 12 (fun j => nI (V j)))] sz) := by
  refine z_metWv (by decide) (Nat.le_of_ble_eq_true rfl) (fun p e s m args below meth c ls A Q Sf hnm w hl hret => ?_)
  obtain ⟨H, hH⟩ : ∃ H, H = s.heap := ⟨_, rfl⟩
  obtain ⟨locs, hlo⟩ : ∃ L : List Loc, L = [] := ⟨_, rfl⟩
  rw [← hH, ← hlo] at w
  rw [← hH, ← hlo]
  clear hH hlo
  have Sf : CallFix p m c cFa_init 7 s args zT RFa := Sf
  have hx := Sf.1
  have hb := Sf.2.1
  have hown := Sf.2.2.2.1
  have hts := Sf.2.2.2.2
  have hl : lv_has ls 7 [(0, .ref f), (1, .int (nI S)), (2, .ref g), (3, .null)] := hl
  refine lv_aload_n hx hb dFa_init_0 rfl (lv_at hl 0 rfl) ?_
  refine W.objInit hx hb hown (hts _ oi_Fa_1) (hts _ oi_inst) (hts _ oi_code) rfl (by rw [Sf.2.2.1]; exact hl.1) rfl dFa_init_1 (Nat.le_of_ble_eq_true rfl) (Nat.le_of_ble_eq_true rfl) ?_
  refine W.eq (g2 := F0 m 4 ls []) rfl ?_
  refine lv_aload_n hx hb dFa_init_4 rfl (lv_at hl 0 rfl) ?_
  refine lv_iconst (v := (nI 1)) hx hb dFa_init_5 (by decide) ?_
  refine pf_Fa_7 Sf w 0 rfl rfl rfl (Nat.le_of_ble_eq_true rfl) (ws' := [(f, zO 0 [.null, .null, .null, .null, .null, .int (nI 1)]), (g, zO 2 [.ref av, .ref an, .int (nI n), .int st]), (av, zI G 12 (fun j => nI (V j)))]) rfl dFa_init_6 (fun H locs w => ?_)
  refine lv_aload_n hx hb dFa_init_9 rfl (lv_at hl 0 rfl) ?_
  refine lv_iload_n hx hb dFa_init_10 rfl (lv_at hl 1 rfl) ?_
  refine z_rS (As := [.int (nI S)]) (rest := [.ref f]) Sf (c_bitCount l G S (by first | assumption | omega)) mv_Fa_13 ⟨rfl, rfl⟩ ⟨Nat.le_of_ble_eq_true rfl, Nat.le_of_ble_eq_true rfl⟩ w.1 [] rfl rfl hl.1 rfl (Nat.le_of_ble_eq_true rfl) dFa_init_11 ⟨(by show _ ≤ 4; omega), (by show _ ≤ 520; omega)⟩ ?_
  refine z_newi hx hb hts ka_int w (N := (popc S)) (by omega) (by decide) (by show _ ≤ 520; omega) dFa_init_14 (fun q1 H w => ?_)
  have w := w.eq (ws' := [(f, zO 0 [.null, .null, .null, .null, .null, .int (nI 1)]), (g, zO 2 [.ref av, .ref an, .int (nI n), .int st]), (av, zI G 12 (fun j => nI (V j))), (q1, zI G (popc S) (fun j => nI ((fun _ => 0) j)))]) rfl
  refine pf_Fa_19 Sf hnm w 0 rfl rfl rfl (Nat.le_of_ble_eq_true rfl) (ws' := [(f, zO 0 [.ref q1, .null, .null, .null, .null, .int (nI 1)]), (g, zO 2 [.ref av, .ref an, .int (nI n), .int st]), (av, zI G 12 (fun j => nI (V j))), (q1, zI G (popc S) (fun j => nI ((fun _ => 0) j)))]) rfl dFa_init_16 (fun H locs w => ?_)
  refine lv_aload_n hx hb dFa_init_19 rfl (lv_at hl 0 rfl) ?_
  refine lv_aload_n hx hb dFa_init_20 rfl (lv_at hl 0 rfl) ?_
  refine gf_Fa_19 Sf w.1 0 rfl rfl dFa_init_21 ?_
  refine z_ilen hx hb w.1 3 rfl dFa_init_24 ?_
  refine z_newi hx hb hts ka_int w (N := (popc S)) (by omega) (by decide) (by show _ ≤ 520; omega) dFa_init_25 (fun q2 H w => ?_)
  have w := w.eq (ws' := [(f, zO 0 [.ref q1, .null, .null, .null, .null, .int (nI 1)]), (g, zO 2 [.ref av, .ref an, .int (nI n), .int st]), (av, zI G 12 (fun j => nI (V j))), (q1, zI G (popc S) (fun j => nI ((fun _ => 0) j))), (q2, zI G (popc S) (fun j => nI ((fun _ => 0) j)))]) rfl
  refine pf_Fa_23 Sf hnm w 0 rfl rfl rfl (Nat.le_of_ble_eq_true rfl) (ws' := [(f, zO 0 [.ref q1, .ref q2, .null, .null, .null, .int (nI 1)]), (g, zO 2 [.ref av, .ref an, .int (nI n), .int st]), (av, zI G 12 (fun j => nI (V j))), (q1, zI G (popc S) (fun j => nI ((fun _ => 0) j))), (q2, zI G (popc S) (fun j => nI ((fun _ => 0) j)))]) rfl dFa_init_27 (fun H locs w => ?_)
  have L106 : ∀ (H : Heap) (locs : List Loc), zw G A s [(f, zO 0 [.ref q1, .ref q2, .null, .null, .null, .int (nI 1)]), (g, zO 2 [.ref av, .ref an, .int (nI n), .int st]), (av, zI G 12 (fun j => nI (V j))), (q1, zI G (popc S) (fun j => nI (((fiR V S n).2.1) j))), (q2, zI G (popc S) (fun j => nI (((fiR V S n).2.2) j)))] H locs → ∀ (ls : Array Slot), lv_has ls 7 [(0, .ref f), (1, .int (nI S)), (2, .ref g), (3, .null), (4, .int (nI (cellsF V S n)))] → W p l e rm_Factor_initN s m args below meth c H locs 2 (0 + popc S + popc S) Q (F0 m 106 ls []) := by
    intro H locs w ls hl
    refine lv_aload_n hx hb dFa_init_106 rfl (lv_at hl 0 rfl) ?_
    refine lv_iload hx hb dFa_init_107 (lv_at hl 4 rfl) ?_
    refine z_newi hx hb hts ka_int w (N := (cellsF V S n)) (by omega) (by decide) (by show _ ≤ 520; omega) dFa_init_109 (fun q3 H w => ?_)
    have w := w.eq (ws' := [(f, zO 0 [.ref q1, .ref q2, .null, .null, .null, .int (nI 1)]), (g, zO 2 [.ref av, .ref an, .int (nI n), .int st]), (av, zI G 12 (fun j => nI (V j))), (q1, zI G (popc S) (fun j => nI (((fiR V S n).2.1) j))), (q2, zI G (popc S) (fun j => nI (((fiR V S n).2.2) j))), (q3, zI G (cellsF V S n) (fun j => nI ((fun _ => 0) j)))]) rfl
    refine pf_Fa_33 Sf hnm w 0 rfl rfl rfl (Nat.le_of_ble_eq_true rfl) (ws' := [(f, zO 0 [.ref q1, .ref q2, .ref q3, .null, .null, .int (nI 1)]), (g, zO 2 [.ref av, .ref an, .int (nI n), .int st]), (av, zI G 12 (fun j => nI (V j))), (q1, zI G (popc S) (fun j => nI (((fiR V S n).2.1) j))), (q2, zI G (popc S) (fun j => nI (((fiR V S n).2.2) j))), (q3, zI G (cellsF V S n) (fun j => nI ((fun _ => 0) j)))]) rfl dFa_init_111 (fun H locs w => ?_)
    refine lv_aload_n hx hb dFa_init_114 rfl (lv_at hl 0 rfl) ?_
    refine lv_iload hx hb dFa_init_115 (lv_at hl 4 rfl) ?_
    refine z_newi hx hb hts ka_int w (N := (cellsF V S n)) (by omega) (by decide) (by show _ ≤ 520; omega) dFa_init_117 (fun q4 H w => ?_)
    have w := w.eq (ws' := [(f, zO 0 [.ref q1, .ref q2, .ref q3, .null, .null, .int (nI 1)]), (g, zO 2 [.ref av, .ref an, .int (nI n), .int st]), (av, zI G 12 (fun j => nI (V j))), (q1, zI G (popc S) (fun j => nI (((fiR V S n).2.1) j))), (q2, zI G (popc S) (fun j => nI (((fiR V S n).2.2) j))), (q3, zI G (cellsF V S n) (fun j => nI ((fun _ => 0) j))), (q4, zI G (cellsF V S n) (fun j => nI ((fun _ => 0) j)))]) rfl
    refine pf_Fa_36 Sf hnm w 0 rfl rfl rfl (Nat.le_of_ble_eq_true rfl) (ws' := [(f, zO 0 [.ref q1, .ref q2, .ref q3, .ref q4, .null, .int (nI 1)]), (g, zO 2 [.ref av, .ref an, .int (nI n), .int st]), (av, zI G 12 (fun j => nI (V j))), (q1, zI G (popc S) (fun j => nI (((fiR V S n).2.1) j))), (q2, zI G (popc S) (fun j => nI (((fiR V S n).2.2) j))), (q3, zI G (cellsF V S n) (fun j => nI ((fun _ => 0) j))), (q4, zI G (cellsF V S n) (fun j => nI ((fun _ => 0) j)))]) rfl dFa_init_119 (fun H locs w => ?_)
    refine lv_aload_n hx hb dFa_init_122 rfl (lv_at hl 0 rfl) ?_
    refine gf_Fa_33 Sf w.1 0 rfl rfl dFa_init_123 ?_
    refine lv_iconst (v := (nI 1)) hx hb dFa_init_126 (by decide) ?_
    refine z_wS (wr := [(f, zO 0 [.ref q1, .ref q2, .ref q3, .ref q4, .null, .int (nI 1)]), (g, zO 2 [.ref av, .ref an, .int (nI n), .int st]), (av, zI G 12 (fun j => nI (V j))), (q1, zI G (popc S) (fun j => nI (((fiR V S n).2.1) j))), (q2, zI G (popc S) (fun j => nI (((fiR V S n).2.2) j))), (q4, zI G (cellsF V S n) (fun j => nI ((fun _ => 0) j)))]) (As := [.ref q3, .int (nI 1)]) (rest := []) Sf (c_fillN l G q3 (cellsF V S n) (fun _ => 0) 1 (by first | assumption | omega) H.size) mv_Fa_39 ⟨rfl, rfl⟩ ⟨Nat.le_of_ble_eq_true rfl, Nat.le_of_ble_eq_true rfl⟩ w [5] [0, 1, 2, 3, 4, 6] rfl rfl (by decide) (by decide) (by decide) rfl hl.1 rfl (Nat.le_of_ble_eq_true rfl) dFa_init_127 ⟨(by show _ ≤ 4; omega), (by show _ ≤ 520; omega)⟩ (fun u5 H locs hu5 w => ?_)
    have w := w.eq (ws' := [(f, zO 0 [.ref q1, .ref q2, .ref q3, .ref q4, .null, .int (nI 1)]), (g, zO 2 [.ref av, .ref an, .int (nI n), .int st]), (av, zI G 12 (fun j => nI (V j))), (q1, zI G (popc S) (fun j => nI (((fiR V S n).2.1) j))), (q2, zI G (popc S) (fun j => nI (((fiR V S n).2.2) j))), (q4, zI G (cellsF V S n) (fun j => nI ((fun _ => 0) j))), (q3, zI G (cellsF V S n) (fun j => nI ((rowF (fun _ => 0) (fun _ => 1) (cellsF V S n)) j)))]) rfl
    refine W.eq (g2 := F0 m 130 ls []) rfl ?_
    refine lv_aload_n hx hb dFa_init_130 rfl (lv_at hl 0 rfl) ?_
    refine gf_Fa_36 Sf w.1 0 rfl rfl dFa_init_131 ?_
    refine lv_iconst (v := (nI 1)) hx hb dFa_init_134 (by decide) ?_
    refine z_wS (wr := [(f, zO 0 [.ref q1, .ref q2, .ref q3, .ref q4, .null, .int (nI 1)]), (g, zO 2 [.ref av, .ref an, .int (nI n), .int st]), (av, zI G 12 (fun j => nI (V j))), (q1, zI G (popc S) (fun j => nI (((fiR V S n).2.1) j))), (q2, zI G (popc S) (fun j => nI (((fiR V S n).2.2) j))), (q3, zI G (cellsF V S n) (fun j => nI ((rowF (fun _ => 0) (fun _ => 1) (cellsF V S n)) j)))]) (As := [.ref q4, .int (nI 1)]) (rest := []) Sf (c_fillN l G q4 (cellsF V S n) (fun _ => 0) 1 (by first | assumption | omega) H.size) mv_Fa_39 ⟨rfl, rfl⟩ ⟨Nat.le_of_ble_eq_true rfl, Nat.le_of_ble_eq_true rfl⟩ w [5] [0, 1, 2, 3, 4, 6] rfl rfl (by decide) (by decide) (by decide) rfl hl.1 rfl (Nat.le_of_ble_eq_true rfl) dFa_init_135 ⟨(by show _ ≤ 4; omega), (by show _ ≤ 520; omega)⟩ (fun u6 H locs hu6 w => ?_)
    have w := w.eq (ws' := [(f, zO 0 [.ref q1, .ref q2, .ref q3, .ref q4, .null, .int (nI 1)]), (g, zO 2 [.ref av, .ref an, .int (nI n), .int st]), (av, zI G 12 (fun j => nI (V j))), (q1, zI G (popc S) (fun j => nI (((fiR V S n).2.1) j))), (q2, zI G (popc S) (fun j => nI (((fiR V S n).2.2) j))), (q3, zI G (cellsF V S n) (fun j => nI ((rowF (fun _ => 0) (fun _ => 1) (cellsF V S n)) j))), (q4, zI G (cellsF V S n) (fun j => nI ((rowF (fun _ => 0) (fun _ => 1) (cellsF V S n)) j)))]) rfl
    refine W.eq (g2 := F0 m 138 ls []) rfl ?_
    refine lv_aload_n hx hb dFa_init_138 rfl (lv_at hl 0 rfl) ?_
    refine lv_aload_nN hx hb dFa_init_139 rfl (lv_at hl 3 rfl) ?_
    refine pf_Fa_45 Sf hnm w 0 rfl rfl rfl (Nat.le_of_ble_eq_true rfl) (ws' := [(f, zO 0 [.ref q1, .ref q2, .ref q3, .ref q4, .null, .int (nI 1)]), (g, zO 2 [.ref av, .ref an, .int (nI n), .int st]), (av, zI G 12 (fun j => nI (V j))), (q1, zI G (popc S) (fun j => nI (((fiR V S n).2.1) j))), (q2, zI G (popc S) (fun j => nI (((fiR V S n).2.2) j))), (q3, zI G (cellsF V S n) (fun j => nI ((rowF (fun _ => 0) (fun _ => 1) (cellsF V S n)) j))), (q4, zI G (cellsF V S n) (fun j => nI ((rowF (fun _ => 0) (fun _ => 1) (cellsF V S n)) j)))]) rfl dFa_init_140 (fun H locs w => ?_)
    refine W.widen (k := 4) (n := 520) (by omega) (by omega) ?_
    exact hret _ _ _ _ (q1, q2, q3, q4) _ w (rfl) (trivial) dFa_init_143 rfl
  refine lv_iconst (v := (nI 1)) hx hb dFa_init_30 (by decide) ?_
  refine lv_istore (lv' := [(4, .int (nI 1)), (0, .ref f), (1, .int (nI S)), (2, .ref g), (3, .null)]) hx hb dFa_init_31 hl (by decide) rfl (fun ls hl => ?_)
  refine lv_iconst (v := (nI 0)) hx hb dFa_init_33 (by decide) ?_
  refine lv_istore (lv' := [(5, .int (nI 0)), (4, .int (nI 1)), (0, .ref f), (1, .int (nI S)), (2, .ref g), (3, .null)]) hx hb dFa_init_34 hl (by decide) rfl (fun ls hl => ?_)
  refine lv_iconst (v := (nI 0)) hx hb dFa_init_36 (by decide) ?_
  refine lv_istore (lv' := [(6, .int (nI 0)), (5, .int (nI 0)), (4, .int (nI 1)), (0, .ref f), (1, .int (nI S)), (2, .ref g), (3, .null)]) hx hb dFa_init_37 hl (by decide) rfl (fun ls hl => ?_)
  have L39 : ∀ (fu39 : Nat) (i fd cl : Nat) (F1 F2 : Nat → Nat), (i ≤ n) → ((fd, F1, F2) = fiR V S i) → (cl = cellsF V S i) → (n - i) < fu39 → ∀ (H : Heap) (locs : List Loc), zw G A s [(f, zO 0 [.ref q1, .ref q2, .null, .null, .null, .int (nI 1)]), (g, zO 2 [.ref av, .ref an, .int (nI n), .int st]), (av, zI G 12 (fun j => nI (V j))), (q1, zI G (popc S) (fun j => nI (F1 j))), (q2, zI G (popc S) (fun j => nI (F2 j)))] H locs → ∀ (ls : Array Slot), lv_has ls 7 [(6, .int (nI i)), (5, .int (nI fd)), (4, .int (nI cl)), (0, .ref f), (1, .int (nI S)), (2, .ref g), (3, .null)] → W p l e rm_Factor_initN s m args below meth c H locs 2 (0 + popc S + popc S) Q (F0 m 39 ls []) := by
    intro fu39
    induction fu39 with
    | zero =>
      intro i fd cl F1 F2 hi hR hcl hm39
      exact absurd hm39 (Nat.not_lt_zero _)
    | succ fu39 ih39 =>
      intro i fd cl F1 F2 hi hR hcl hm39 H locs w ls hl
      have hfd : fd = popP S i := by rw [← fiR_1 (V := V), ← hR]
      have hple : popP S i ≤ popc S := popP_le (by omega)
      refine lv_iload hx hb dFa_init_39 (lv_at hl 0 rfl) ?_
      refine lv_aload_n hx hb dFa_init_41 rfl (lv_at hl 5 rfl) ?_
      refine gf_Fa_26 Sf w.1 1 rfl rfl dFa_init_42 ?_
      refine z_icmpge (tgt := 106) hx hb (by omega) (by omega) dFa_init_45 (by decide) (fun c45 => ?_) (fun c45 => ?_)
      · skip
        have hen : fiR V S n = fiR V S i ∧ cellsF V S n = cellsF V S i := by
          first | exact fiR_end (show i ≤ n by omega) hn (by omega) | exact (show i = n by omega) ▸ ⟨rfl, rfl⟩
        have w := w.eq (ws' := [(f, zO 0 [.ref q1, .ref q2, .null, .null, .null, .int (nI 1)]), (g, zO 2 [.ref av, .ref an, .int (nI n), .int st]), (av, zI G 12 (fun j => nI (V j))), (q1, zI G (popc S) (fun j => nI (((fiR V S n).2.1) j))), (q2, zI G (popc S) (fun j => nI (((fiR V S n).2.2) j)))]) (by rw [hen.1, ← hR])
        have hce := hcl.trans hen.2.symm
        subst hce
        refine L106   _ _ w ls (lv_sub hl [3, 4, 5, 6, 2] rfl)
      · skip
        refine lv_iload hx hb dFa_init_48 (lv_at hl 1 rfl) ?_
        refine lv_aload_n hx hb dFa_init_50 rfl (lv_at hl 3 rfl) ?_
        refine gf_Fa_19 Sf w.1 0 rfl rfl dFa_init_51 ?_
        refine z_ilen hx hb w.1 3 rfl dFa_init_54 ?_
        refine z_icmpge (tgt := 106) hx hb (by omega) (by omega) dFa_init_55 (by decide) (fun c55 => ?_) (fun c55 => ?_)
        · skip
          have hen : fiR V S n = fiR V S i ∧ cellsF V S n = cellsF V S i := by
            first | exact fiR_end (show i ≤ n by omega) hn (by omega) | exact (show i = n by omega) ▸ ⟨rfl, rfl⟩
          have w := w.eq (ws' := [(f, zO 0 [.ref q1, .ref q2, .null, .null, .null, .int (nI 1)]), (g, zO 2 [.ref av, .ref an, .int (nI n), .int st]), (av, zI G 12 (fun j => nI (V j))), (q1, zI G (popc S) (fun j => nI (((fiR V S n).2.1) j))), (q2, zI G (popc S) (fun j => nI (((fiR V S n).2.2) j)))]) (by rw [hen.1, ← hR])
          have hce := hcl.trans hen.2.symm
          subst hce
          refine L106   _ _ w ls (lv_sub hl [3, 4, 5, 6, 2] rfl)
        · skip
          refine lv_iload_n hx hb dFa_init_58 rfl (lv_at hl 4 rfl) ?_
          refine lv_iconst (v := (nI 1)) hx hb dFa_init_59 (by decide) ?_
          refine lv_iload hx hb dFa_init_60 (lv_at hl 0 rfl) ?_
          refine z_shl1 hx hb (by omega) dFa_init_62 ?_
          refine z_andN hx hb dFa_init_63 ?_
          refine z_ifeqbit (tgt := 100) hx hb (by omega) dFa_init_64 (by decide) (fun c64 => ?_) (fun c64 => ?_)
          · skip
            refine z_iinc (d := 1) (lv' := [(6, .int (nI (i + 1))), (5, .int (nI fd)), (4, .int (nI cl)), (0, .ref f), (1, .int (nI S)), (2, .ref g), (3, .null)]) hx hb dFa_init_100 hl (k := 0) rfl (by decide) (by decide) rfl (fun ls hl => ?_)
            refine lv_goto (tgt := 39) hx hb dFa_init_103 (by decide) ?_
            refine ih39 (i + 1) _ _ F1 F2 ?_ ?_ ?_ ?_ _ _ w ls (lv_sub hl [0, 1, 2, 3, 4, 5, 6] rfl)
            · omega
            · first | (rw [fiR_t c64, ← hR, hcl]; done) | (rw [fiR_f c64, ← hR])
            · first | (rw [cellsF_t c64, hcl]; done) | (rw [cellsF_f c64, hcl])
            · omega
          · skip
            refine lv_aload_n hx hb dFa_init_67 rfl (lv_at hl 3 rfl) ?_
            refine gf_Fa_19 Sf w.1 0 rfl rfl dFa_init_68 ?_
            refine lv_iload hx hb dFa_init_71 (lv_at hl 1 rfl) ?_
            refine lv_iload hx hb dFa_init_73 (lv_at hl 0 rfl) ?_
            refine z_iastN hx hb w 3 (k := fd) rfl (by omega) (by omega) (ws' := [(f, zO 0 [.ref q1, .ref q2, .null, .null, .null, .int (nI 1)]), (g, zO 2 [.ref av, .ref an, .int (nI n), .int st]), (av, zI G 12 (fun j => nI (V j))), (q1, zI G (popc S) (fun j => nI ((va_up F1 fd i) j))), (q2, zI G (popc S) (fun j => nI (F2 j)))]) rfl dFa_init_75 (fun H locs w => ?_)
            refine lv_aload_n hx hb dFa_init_76 rfl (lv_at hl 3 rfl) ?_
            refine gf_Fa_23 Sf w.1 0 rfl rfl dFa_init_77 ?_
            refine lv_iload hx hb dFa_init_80 (lv_at hl 1 rfl) ?_
            refine lv_iload hx hb dFa_init_82 (lv_at hl 2 rfl) ?_
            refine z_iastN hx hb w 4 (k := fd) rfl (by omega) (by omega) (ws' := [(f, zO 0 [.ref q1, .ref q2, .null, .null, .null, .int (nI 1)]), (g, zO 2 [.ref av, .ref an, .int (nI n), .int st]), (av, zI G 12 (fun j => nI (V j))), (q1, zI G (popc S) (fun j => nI ((va_up F1 fd i) j))), (q2, zI G (popc S) (fun j => nI ((va_up F2 fd cl) j)))]) rfl dFa_init_84 (fun H locs w => ?_)
            refine lv_iload hx hb dFa_init_85 (lv_at hl 2 rfl) ?_
            refine lv_aload_n hx hb dFa_init_87 rfl (lv_at hl 5 rfl) ?_
            refine gf_Fa_30 Sf w.1 1 rfl rfl dFa_init_88 ?_
            refine lv_iload hx hb dFa_init_91 (lv_at hl 0 rfl) ?_
            refine z_iald hx hb w.1 2 (k := i) rfl (by omega) (by omega) dFa_init_93 ?_
            refine z_mulN hx hb dFa_init_94 ?_
            refine lv_istore (lv' := [(4, .int (nI (cl * (V i)))), (6, .int (nI i)), (5, .int (nI fd)), (0, .ref f), (1, .int (nI S)), (2, .ref g), (3, .null)]) hx hb dFa_init_95 hl (by decide) rfl (fun ls hl => ?_)
            refine z_iinc (d := 1) (lv' := [(5, .int (nI (fd + 1))), (4, .int (nI (cl * (V i)))), (6, .int (nI i)), (0, .ref f), (1, .int (nI S)), (2, .ref g), (3, .null)]) hx hb dFa_init_97 hl (k := 2) rfl (by decide) (by decide) rfl (fun ls hl => ?_)
            refine z_iinc (d := 1) (lv' := [(6, .int (nI (i + 1))), (5, .int (nI (fd + 1))), (4, .int (nI (cl * (V i)))), (0, .ref f), (1, .int (nI S)), (2, .ref g), (3, .null)]) hx hb dFa_init_100 hl (k := 2) rfl (by decide) (by decide) rfl (fun ls hl => ?_)
            refine lv_goto (tgt := 39) hx hb dFa_init_103 (by decide) ?_
            refine ih39 (i + 1) (fd + 1) (cl * (V i)) (va_up F1 fd i) (va_up F2 fd cl) ?_ ?_ ?_ ?_ _ _ w ls (lv_sub hl [0, 1, 2, 3, 4, 5, 6] rfl)
            · omega
            · first | (rw [fiR_t c64, ← hR, hcl]; done) | (rw [fiR_f c64, ← hR])
            · first | (rw [cellsF_t c64, hcl]; done) | (rw [cellsF_f c64, hcl])
            · omega
  refine L39 ((n - 0) + 1) 0 0 1 (fun _ => 0) (fun _ => 0) ?_ ?_ ?_ ?_ _ _ w ls (lv_sub hl [0, 1, 2, 3, 4, 5, 6] rfl)
  · omega
  · rfl
  · rfl
  · exact Nat.lt_succ_self _

def rm_Factor_initR : Room := { frames := 1, cells := 4, slots := 520, locals := 40 }
set_option maxHeartbeats 4000000 in
set_option maxRecDepth 100000 in
theorem c_Factor_initR (l : Launch) (G : zG) (f : Nat) (nx : Nat) (g av an : Nat) (n : Nat) (st : Int32) (V : Nat → Nat) (S : Nat) (hn : n ≤ 12) (hS : S < 4096) (hp4 : popc S ≤ 4) (hc4 : cellsF V S n ≤ 256) (sz : Nat) : Met l yFa_init (.code yFa_init cFa_init 7 none :: zT) rm_Factor_initR (zPw G [.ref f, .int (nI S), .ref g, .ref nx] [(f, zO 0 [.null, .null, .null, .null, .null, .int (nI 0)]), (g, zO 2 [.ref av, .ref an, .int (nI n), .int st]), (av, zI G 12 (fun j => nI (V j)))] sz) (zQ (S := Nat × Nat × Nat × Nat) G (fun u => none) (fun u => [(f, zO 0 [.ref u.1, .ref u.2.1, .ref u.2.2.1, .ref u.2.2.2, .ref nx, .int (nI 1)]), (g, zO 2 [.ref av, .ref an, .int (nI n), .int st]), (av, zI G 12 (fun j => nI (V j))), (u.1, zI G (popc S) (fun j => nI (((fiR V S n).2.1) j))), (u.2.1, zI G (popc S) (fun j => nI (((fiR V S n).2.2) j))), (u.2.2.1, zI G (cellsF V S n) (fun j => nI ((rowF (fun _ => 0) (fun _ => 1) (cellsF V S n)) j))), (u.2.2.2, zI G (cellsF V S n) (fun j => nI ((rowF (fun _ => 0) (fun _ => 1) (cellsF V S n)) j)))]) (va_A [(f, zO 0 [.null, .null, .null, .null, .null, .int (nI 0)]), (g, zO 2 [.ref av, .ref an, .int (nI n), .int st]), (av, zI G 12 (fun j => nI (V j)))] sz) (fun u => True)) 4 520 (va_A [(f, zO 0 [.null, .null, .null, .null, .null, .int (nI 0)]), (g, zO 2 [.ref av, .ref an, .int (nI n), .int st]), (av, zI G 12 (fun j => nI (V j)))] sz) := by
  refine z_metWv (by decide) (Nat.le_of_ble_eq_true rfl) (fun p e s m args below meth c ls A Q Sf hnm w hl hret => ?_)
  obtain ⟨H, hH⟩ : ∃ H, H = s.heap := ⟨_, rfl⟩
  obtain ⟨locs, hlo⟩ : ∃ L : List Loc, L = [] := ⟨_, rfl⟩
  rw [← hH, ← hlo] at w
  rw [← hH, ← hlo]
  clear hH hlo
  have Sf : CallFix p m c cFa_init 7 s args zT RFa := Sf
  have hx := Sf.1
  have hb := Sf.2.1
  have hown := Sf.2.2.2.1
  have hts := Sf.2.2.2.2
  have hl : lv_has ls 7 [(0, .ref f), (1, .int (nI S)), (2, .ref g), (3, .ref nx)] := hl
  refine lv_aload_n hx hb dFa_init_0 rfl (lv_at hl 0 rfl) ?_
  refine W.objInit hx hb hown (hts _ oi_Fa_1) (hts _ oi_inst) (hts _ oi_code) rfl (by rw [Sf.2.2.1]; exact hl.1) rfl dFa_init_1 (Nat.le_of_ble_eq_true rfl) (Nat.le_of_ble_eq_true rfl) ?_
  refine W.eq (g2 := F0 m 4 ls []) rfl ?_
  refine lv_aload_n hx hb dFa_init_4 rfl (lv_at hl 0 rfl) ?_
  refine lv_iconst (v := (nI 1)) hx hb dFa_init_5 (by decide) ?_
  refine pf_Fa_7 Sf w 0 rfl rfl rfl (Nat.le_of_ble_eq_true rfl) (ws' := [(f, zO 0 [.null, .null, .null, .null, .null, .int (nI 1)]), (g, zO 2 [.ref av, .ref an, .int (nI n), .int st]), (av, zI G 12 (fun j => nI (V j)))]) rfl dFa_init_6 (fun H locs w => ?_)
  refine lv_aload_n hx hb dFa_init_9 rfl (lv_at hl 0 rfl) ?_
  refine lv_iload_n hx hb dFa_init_10 rfl (lv_at hl 1 rfl) ?_
  refine z_rS (As := [.int (nI S)]) (rest := [.ref f]) Sf (c_bitCount l G S (by first | assumption | omega)) mv_Fa_13 ⟨rfl, rfl⟩ ⟨Nat.le_of_ble_eq_true rfl, Nat.le_of_ble_eq_true rfl⟩ w.1 [] rfl rfl hl.1 rfl (Nat.le_of_ble_eq_true rfl) dFa_init_11 ⟨(by show _ ≤ 4; omega), (by show _ ≤ 520; omega)⟩ ?_
  refine z_newi hx hb hts ka_int w (N := (popc S)) (by omega) (by decide) (by show _ ≤ 520; omega) dFa_init_14 (fun q1 H w => ?_)
  have w := w.eq (ws' := [(f, zO 0 [.null, .null, .null, .null, .null, .int (nI 1)]), (g, zO 2 [.ref av, .ref an, .int (nI n), .int st]), (av, zI G 12 (fun j => nI (V j))), (q1, zI G (popc S) (fun j => nI ((fun _ => 0) j)))]) rfl
  refine pf_Fa_19 Sf hnm w 0 rfl rfl rfl (Nat.le_of_ble_eq_true rfl) (ws' := [(f, zO 0 [.ref q1, .null, .null, .null, .null, .int (nI 1)]), (g, zO 2 [.ref av, .ref an, .int (nI n), .int st]), (av, zI G 12 (fun j => nI (V j))), (q1, zI G (popc S) (fun j => nI ((fun _ => 0) j)))]) rfl dFa_init_16 (fun H locs w => ?_)
  refine lv_aload_n hx hb dFa_init_19 rfl (lv_at hl 0 rfl) ?_
  refine lv_aload_n hx hb dFa_init_20 rfl (lv_at hl 0 rfl) ?_
  refine gf_Fa_19 Sf w.1 0 rfl rfl dFa_init_21 ?_
  refine z_ilen hx hb w.1 3 rfl dFa_init_24 ?_
  refine z_newi hx hb hts ka_int w (N := (popc S)) (by omega) (by decide) (by show _ ≤ 520; omega) dFa_init_25 (fun q2 H w => ?_)
  have w := w.eq (ws' := [(f, zO 0 [.ref q1, .null, .null, .null, .null, .int (nI 1)]), (g, zO 2 [.ref av, .ref an, .int (nI n), .int st]), (av, zI G 12 (fun j => nI (V j))), (q1, zI G (popc S) (fun j => nI ((fun _ => 0) j))), (q2, zI G (popc S) (fun j => nI ((fun _ => 0) j)))]) rfl
  refine pf_Fa_23 Sf hnm w 0 rfl rfl rfl (Nat.le_of_ble_eq_true rfl) (ws' := [(f, zO 0 [.ref q1, .ref q2, .null, .null, .null, .int (nI 1)]), (g, zO 2 [.ref av, .ref an, .int (nI n), .int st]), (av, zI G 12 (fun j => nI (V j))), (q1, zI G (popc S) (fun j => nI ((fun _ => 0) j))), (q2, zI G (popc S) (fun j => nI ((fun _ => 0) j)))]) rfl dFa_init_27 (fun H locs w => ?_)
  have L106 : ∀ (H : Heap) (locs : List Loc), zw G A s [(f, zO 0 [.ref q1, .ref q2, .null, .null, .null, .int (nI 1)]), (g, zO 2 [.ref av, .ref an, .int (nI n), .int st]), (av, zI G 12 (fun j => nI (V j))), (q1, zI G (popc S) (fun j => nI (((fiR V S n).2.1) j))), (q2, zI G (popc S) (fun j => nI (((fiR V S n).2.2) j)))] H locs → ∀ (ls : Array Slot), lv_has ls 7 [(0, .ref f), (1, .int (nI S)), (2, .ref g), (3, .ref nx), (4, .int (nI (cellsF V S n)))] → W p l e rm_Factor_initR s m args below meth c H locs 2 (0 + popc S + popc S) Q (F0 m 106 ls []) := by
    intro H locs w ls hl
    refine lv_aload_n hx hb dFa_init_106 rfl (lv_at hl 0 rfl) ?_
    refine lv_iload hx hb dFa_init_107 (lv_at hl 4 rfl) ?_
    refine z_newi hx hb hts ka_int w (N := (cellsF V S n)) (by omega) (by decide) (by show _ ≤ 520; omega) dFa_init_109 (fun q3 H w => ?_)
    have w := w.eq (ws' := [(f, zO 0 [.ref q1, .ref q2, .null, .null, .null, .int (nI 1)]), (g, zO 2 [.ref av, .ref an, .int (nI n), .int st]), (av, zI G 12 (fun j => nI (V j))), (q1, zI G (popc S) (fun j => nI (((fiR V S n).2.1) j))), (q2, zI G (popc S) (fun j => nI (((fiR V S n).2.2) j))), (q3, zI G (cellsF V S n) (fun j => nI ((fun _ => 0) j)))]) rfl
    refine pf_Fa_33 Sf hnm w 0 rfl rfl rfl (Nat.le_of_ble_eq_true rfl) (ws' := [(f, zO 0 [.ref q1, .ref q2, .ref q3, .null, .null, .int (nI 1)]), (g, zO 2 [.ref av, .ref an, .int (nI n), .int st]), (av, zI G 12 (fun j => nI (V j))), (q1, zI G (popc S) (fun j => nI (((fiR V S n).2.1) j))), (q2, zI G (popc S) (fun j => nI (((fiR V S n).2.2) j))), (q3, zI G (cellsF V S n) (fun j => nI ((fun _ => 0) j)))]) rfl dFa_init_111 (fun H locs w => ?_)
    refine lv_aload_n hx hb dFa_init_114 rfl (lv_at hl 0 rfl) ?_
    refine lv_iload hx hb dFa_init_115 (lv_at hl 4 rfl) ?_
    refine z_newi hx hb hts ka_int w (N := (cellsF V S n)) (by omega) (by decide) (by show _ ≤ 520; omega) dFa_init_117 (fun q4 H w => ?_)
    have w := w.eq (ws' := [(f, zO 0 [.ref q1, .ref q2, .ref q3, .null, .null, .int (nI 1)]), (g, zO 2 [.ref av, .ref an, .int (nI n), .int st]), (av, zI G 12 (fun j => nI (V j))), (q1, zI G (popc S) (fun j => nI (((fiR V S n).2.1) j))), (q2, zI G (popc S) (fun j => nI (((fiR V S n).2.2) j))), (q3, zI G (cellsF V S n) (fun j => nI ((fun _ => 0) j))), (q4, zI G (cellsF V S n) (fun j => nI ((fun _ => 0) j)))]) rfl
    refine pf_Fa_36 Sf hnm w 0 rfl rfl rfl (Nat.le_of_ble_eq_true rfl) (ws' := [(f, zO 0 [.ref q1, .ref q2, .ref q3, .ref q4, .null, .int (nI 1)]), (g, zO 2 [.ref av, .ref an, .int (nI n), .int st]), (av, zI G 12 (fun j => nI (V j))), (q1, zI G (popc S) (fun j => nI (((fiR V S n).2.1) j))), (q2, zI G (popc S) (fun j => nI (((fiR V S n).2.2) j))), (q3, zI G (cellsF V S n) (fun j => nI ((fun _ => 0) j))), (q4, zI G (cellsF V S n) (fun j => nI ((fun _ => 0) j)))]) rfl dFa_init_119 (fun H locs w => ?_)
    refine lv_aload_n hx hb dFa_init_122 rfl (lv_at hl 0 rfl) ?_
    refine gf_Fa_33 Sf w.1 0 rfl rfl dFa_init_123 ?_
    refine lv_iconst (v := (nI 1)) hx hb dFa_init_126 (by decide) ?_
    refine z_wS (wr := [(f, zO 0 [.ref q1, .ref q2, .ref q3, .ref q4, .null, .int (nI 1)]), (g, zO 2 [.ref av, .ref an, .int (nI n), .int st]), (av, zI G 12 (fun j => nI (V j))), (q1, zI G (popc S) (fun j => nI (((fiR V S n).2.1) j))), (q2, zI G (popc S) (fun j => nI (((fiR V S n).2.2) j))), (q4, zI G (cellsF V S n) (fun j => nI ((fun _ => 0) j)))]) (As := [.ref q3, .int (nI 1)]) (rest := []) Sf (c_fillN l G q3 (cellsF V S n) (fun _ => 0) 1 (by first | assumption | omega) H.size) mv_Fa_39 ⟨rfl, rfl⟩ ⟨Nat.le_of_ble_eq_true rfl, Nat.le_of_ble_eq_true rfl⟩ w [5] [0, 1, 2, 3, 4, 6] rfl rfl (by decide) (by decide) (by decide) rfl hl.1 rfl (Nat.le_of_ble_eq_true rfl) dFa_init_127 ⟨(by show _ ≤ 4; omega), (by show _ ≤ 520; omega)⟩ (fun u5 H locs hu5 w => ?_)
    have w := w.eq (ws' := [(f, zO 0 [.ref q1, .ref q2, .ref q3, .ref q4, .null, .int (nI 1)]), (g, zO 2 [.ref av, .ref an, .int (nI n), .int st]), (av, zI G 12 (fun j => nI (V j))), (q1, zI G (popc S) (fun j => nI (((fiR V S n).2.1) j))), (q2, zI G (popc S) (fun j => nI (((fiR V S n).2.2) j))), (q4, zI G (cellsF V S n) (fun j => nI ((fun _ => 0) j))), (q3, zI G (cellsF V S n) (fun j => nI ((rowF (fun _ => 0) (fun _ => 1) (cellsF V S n)) j)))]) rfl
    refine W.eq (g2 := F0 m 130 ls []) rfl ?_
    refine lv_aload_n hx hb dFa_init_130 rfl (lv_at hl 0 rfl) ?_
    refine gf_Fa_36 Sf w.1 0 rfl rfl dFa_init_131 ?_
    refine lv_iconst (v := (nI 1)) hx hb dFa_init_134 (by decide) ?_
    refine z_wS (wr := [(f, zO 0 [.ref q1, .ref q2, .ref q3, .ref q4, .null, .int (nI 1)]), (g, zO 2 [.ref av, .ref an, .int (nI n), .int st]), (av, zI G 12 (fun j => nI (V j))), (q1, zI G (popc S) (fun j => nI (((fiR V S n).2.1) j))), (q2, zI G (popc S) (fun j => nI (((fiR V S n).2.2) j))), (q3, zI G (cellsF V S n) (fun j => nI ((rowF (fun _ => 0) (fun _ => 1) (cellsF V S n)) j)))]) (As := [.ref q4, .int (nI 1)]) (rest := []) Sf (c_fillN l G q4 (cellsF V S n) (fun _ => 0) 1 (by first | assumption | omega) H.size) mv_Fa_39 ⟨rfl, rfl⟩ ⟨Nat.le_of_ble_eq_true rfl, Nat.le_of_ble_eq_true rfl⟩ w [5] [0, 1, 2, 3, 4, 6] rfl rfl (by decide) (by decide) (by decide) rfl hl.1 rfl (Nat.le_of_ble_eq_true rfl) dFa_init_135 ⟨(by show _ ≤ 4; omega), (by show _ ≤ 520; omega)⟩ (fun u6 H locs hu6 w => ?_)
    have w := w.eq (ws' := [(f, zO 0 [.ref q1, .ref q2, .ref q3, .ref q4, .null, .int (nI 1)]), (g, zO 2 [.ref av, .ref an, .int (nI n), .int st]), (av, zI G 12 (fun j => nI (V j))), (q1, zI G (popc S) (fun j => nI (((fiR V S n).2.1) j))), (q2, zI G (popc S) (fun j => nI (((fiR V S n).2.2) j))), (q3, zI G (cellsF V S n) (fun j => nI ((rowF (fun _ => 0) (fun _ => 1) (cellsF V S n)) j))), (q4, zI G (cellsF V S n) (fun j => nI ((rowF (fun _ => 0) (fun _ => 1) (cellsF V S n)) j)))]) rfl
    refine W.eq (g2 := F0 m 138 ls []) rfl ?_
    refine lv_aload_n hx hb dFa_init_138 rfl (lv_at hl 0 rfl) ?_
    refine lv_aload_n hx hb dFa_init_139 rfl (lv_at hl 3 rfl) ?_
    refine pf_Fa_45 Sf hnm w 0 rfl rfl rfl (Nat.le_of_ble_eq_true rfl) (ws' := [(f, zO 0 [.ref q1, .ref q2, .ref q3, .ref q4, .ref nx, .int (nI 1)]), (g, zO 2 [.ref av, .ref an, .int (nI n), .int st]), (av, zI G 12 (fun j => nI (V j))), (q1, zI G (popc S) (fun j => nI (((fiR V S n).2.1) j))), (q2, zI G (popc S) (fun j => nI (((fiR V S n).2.2) j))), (q3, zI G (cellsF V S n) (fun j => nI ((rowF (fun _ => 0) (fun _ => 1) (cellsF V S n)) j))), (q4, zI G (cellsF V S n) (fun j => nI ((rowF (fun _ => 0) (fun _ => 1) (cellsF V S n)) j)))]) rfl dFa_init_140 (fun H locs w => ?_)
    refine W.widen (k := 4) (n := 520) (by omega) (by omega) ?_
    exact hret _ _ _ _ (q1, q2, q3, q4) _ w (rfl) (trivial) dFa_init_143 rfl
  refine lv_iconst (v := (nI 1)) hx hb dFa_init_30 (by decide) ?_
  refine lv_istore (lv' := [(4, .int (nI 1)), (0, .ref f), (1, .int (nI S)), (2, .ref g), (3, .ref nx)]) hx hb dFa_init_31 hl (by decide) rfl (fun ls hl => ?_)
  refine lv_iconst (v := (nI 0)) hx hb dFa_init_33 (by decide) ?_
  refine lv_istore (lv' := [(5, .int (nI 0)), (4, .int (nI 1)), (0, .ref f), (1, .int (nI S)), (2, .ref g), (3, .ref nx)]) hx hb dFa_init_34 hl (by decide) rfl (fun ls hl => ?_)
  refine lv_iconst (v := (nI 0)) hx hb dFa_init_36 (by decide) ?_
  refine lv_istore (lv' := [(6, .int (nI 0)), (5, .int (nI 0)), (4, .int (nI 1)), (0, .ref f), (1, .int (nI S)), (2, .ref g), (3, .ref nx)]) hx hb dFa_init_37 hl (by decide) rfl (fun ls hl => ?_)
  have L39 : ∀ (fu39 : Nat) (i fd cl : Nat) (F1 F2 : Nat → Nat), (i ≤ n) → ((fd, F1, F2) = fiR V S i) → (cl = cellsF V S i) → (n - i) < fu39 → ∀ (H : Heap) (locs : List Loc), zw G A s [(f, zO 0 [.ref q1, .ref q2, .null, .null, .null, .int (nI 1)]), (g, zO 2 [.ref av, .ref an, .int (nI n), .int st]), (av, zI G 12 (fun j => nI (V j))), (q1, zI G (popc S) (fun j => nI (F1 j))), (q2, zI G (popc S) (fun j => nI (F2 j)))] H locs → ∀ (ls : Array Slot), lv_has ls 7 [(6, .int (nI i)), (5, .int (nI fd)), (4, .int (nI cl)), (0, .ref f), (1, .int (nI S)), (2, .ref g), (3, .ref nx)] → W p l e rm_Factor_initR s m args below meth c H locs 2 (0 + popc S + popc S) Q (F0 m 39 ls []) := by
    intro fu39
    induction fu39 with
    | zero =>
      intro i fd cl F1 F2 hi hR hcl hm39
      exact absurd hm39 (Nat.not_lt_zero _)
    | succ fu39 ih39 =>
      intro i fd cl F1 F2 hi hR hcl hm39 H locs w ls hl
      have hfd : fd = popP S i := by rw [← fiR_1 (V := V), ← hR]
      have hple : popP S i ≤ popc S := popP_le (by omega)
      refine lv_iload hx hb dFa_init_39 (lv_at hl 0 rfl) ?_
      refine lv_aload_n hx hb dFa_init_41 rfl (lv_at hl 5 rfl) ?_
      refine gf_Fa_26 Sf w.1 1 rfl rfl dFa_init_42 ?_
      refine z_icmpge (tgt := 106) hx hb (by omega) (by omega) dFa_init_45 (by decide) (fun c45 => ?_) (fun c45 => ?_)
      · skip
        have hen : fiR V S n = fiR V S i ∧ cellsF V S n = cellsF V S i := by
          first | exact fiR_end (show i ≤ n by omega) hn (by omega) | exact (show i = n by omega) ▸ ⟨rfl, rfl⟩
        have w := w.eq (ws' := [(f, zO 0 [.ref q1, .ref q2, .null, .null, .null, .int (nI 1)]), (g, zO 2 [.ref av, .ref an, .int (nI n), .int st]), (av, zI G 12 (fun j => nI (V j))), (q1, zI G (popc S) (fun j => nI (((fiR V S n).2.1) j))), (q2, zI G (popc S) (fun j => nI (((fiR V S n).2.2) j)))]) (by rw [hen.1, ← hR])
        have hce := hcl.trans hen.2.symm
        subst hce
        refine L106   _ _ w ls (lv_sub hl [3, 4, 5, 6, 2] rfl)
      · skip
        refine lv_iload hx hb dFa_init_48 (lv_at hl 1 rfl) ?_
        refine lv_aload_n hx hb dFa_init_50 rfl (lv_at hl 3 rfl) ?_
        refine gf_Fa_19 Sf w.1 0 rfl rfl dFa_init_51 ?_
        refine z_ilen hx hb w.1 3 rfl dFa_init_54 ?_
        refine z_icmpge (tgt := 106) hx hb (by omega) (by omega) dFa_init_55 (by decide) (fun c55 => ?_) (fun c55 => ?_)
        · skip
          have hen : fiR V S n = fiR V S i ∧ cellsF V S n = cellsF V S i := by
            first | exact fiR_end (show i ≤ n by omega) hn (by omega) | exact (show i = n by omega) ▸ ⟨rfl, rfl⟩
          have w := w.eq (ws' := [(f, zO 0 [.ref q1, .ref q2, .null, .null, .null, .int (nI 1)]), (g, zO 2 [.ref av, .ref an, .int (nI n), .int st]), (av, zI G 12 (fun j => nI (V j))), (q1, zI G (popc S) (fun j => nI (((fiR V S n).2.1) j))), (q2, zI G (popc S) (fun j => nI (((fiR V S n).2.2) j)))]) (by rw [hen.1, ← hR])
          have hce := hcl.trans hen.2.symm
          subst hce
          refine L106   _ _ w ls (lv_sub hl [3, 4, 5, 6, 2] rfl)
        · skip
          refine lv_iload_n hx hb dFa_init_58 rfl (lv_at hl 4 rfl) ?_
          refine lv_iconst (v := (nI 1)) hx hb dFa_init_59 (by decide) ?_
          refine lv_iload hx hb dFa_init_60 (lv_at hl 0 rfl) ?_
          refine z_shl1 hx hb (by omega) dFa_init_62 ?_
          refine z_andN hx hb dFa_init_63 ?_
          refine z_ifeqbit (tgt := 100) hx hb (by omega) dFa_init_64 (by decide) (fun c64 => ?_) (fun c64 => ?_)
          · skip
            refine z_iinc (d := 1) (lv' := [(6, .int (nI (i + 1))), (5, .int (nI fd)), (4, .int (nI cl)), (0, .ref f), (1, .int (nI S)), (2, .ref g), (3, .ref nx)]) hx hb dFa_init_100 hl (k := 0) rfl (by decide) (by decide) rfl (fun ls hl => ?_)
            refine lv_goto (tgt := 39) hx hb dFa_init_103 (by decide) ?_
            refine ih39 (i + 1) _ _ F1 F2 ?_ ?_ ?_ ?_ _ _ w ls (lv_sub hl [0, 1, 2, 3, 4, 5, 6] rfl)
            · omega
            · first | (rw [fiR_t c64, ← hR, hcl]; done) | (rw [fiR_f c64, ← hR])
            · first | (rw [cellsF_t c64, hcl]; done) | (rw [cellsF_f c64, hcl])
            · omega
          · skip
            refine lv_aload_n hx hb dFa_init_67 rfl (lv_at hl 3 rfl) ?_
            refine gf_Fa_19 Sf w.1 0 rfl rfl dFa_init_68 ?_
            refine lv_iload hx hb dFa_init_71 (lv_at hl 1 rfl) ?_
            refine lv_iload hx hb dFa_init_73 (lv_at hl 0 rfl) ?_
            refine z_iastN hx hb w 3 (k := fd) rfl (by omega) (by omega) (ws' := [(f, zO 0 [.ref q1, .ref q2, .null, .null, .null, .int (nI 1)]), (g, zO 2 [.ref av, .ref an, .int (nI n), .int st]), (av, zI G 12 (fun j => nI (V j))), (q1, zI G (popc S) (fun j => nI ((va_up F1 fd i) j))), (q2, zI G (popc S) (fun j => nI (F2 j)))]) rfl dFa_init_75 (fun H locs w => ?_)
            refine lv_aload_n hx hb dFa_init_76 rfl (lv_at hl 3 rfl) ?_
            refine gf_Fa_23 Sf w.1 0 rfl rfl dFa_init_77 ?_
            refine lv_iload hx hb dFa_init_80 (lv_at hl 1 rfl) ?_
            refine lv_iload hx hb dFa_init_82 (lv_at hl 2 rfl) ?_
            refine z_iastN hx hb w 4 (k := fd) rfl (by omega) (by omega) (ws' := [(f, zO 0 [.ref q1, .ref q2, .null, .null, .null, .int (nI 1)]), (g, zO 2 [.ref av, .ref an, .int (nI n), .int st]), (av, zI G 12 (fun j => nI (V j))), (q1, zI G (popc S) (fun j => nI ((va_up F1 fd i) j))), (q2, zI G (popc S) (fun j => nI ((va_up F2 fd cl) j)))]) rfl dFa_init_84 (fun H locs w => ?_)
            refine lv_iload hx hb dFa_init_85 (lv_at hl 2 rfl) ?_
            refine lv_aload_n hx hb dFa_init_87 rfl (lv_at hl 5 rfl) ?_
            refine gf_Fa_30 Sf w.1 1 rfl rfl dFa_init_88 ?_
            refine lv_iload hx hb dFa_init_91 (lv_at hl 0 rfl) ?_
            refine z_iald hx hb w.1 2 (k := i) rfl (by omega) (by omega) dFa_init_93 ?_
            refine z_mulN hx hb dFa_init_94 ?_
            refine lv_istore (lv' := [(4, .int (nI (cl * (V i)))), (6, .int (nI i)), (5, .int (nI fd)), (0, .ref f), (1, .int (nI S)), (2, .ref g), (3, .ref nx)]) hx hb dFa_init_95 hl (by decide) rfl (fun ls hl => ?_)
            refine z_iinc (d := 1) (lv' := [(5, .int (nI (fd + 1))), (4, .int (nI (cl * (V i)))), (6, .int (nI i)), (0, .ref f), (1, .int (nI S)), (2, .ref g), (3, .ref nx)]) hx hb dFa_init_97 hl (k := 2) rfl (by decide) (by decide) rfl (fun ls hl => ?_)
            refine z_iinc (d := 1) (lv' := [(6, .int (nI (i + 1))), (5, .int (nI (fd + 1))), (4, .int (nI (cl * (V i)))), (0, .ref f), (1, .int (nI S)), (2, .ref g), (3, .ref nx)]) hx hb dFa_init_100 hl (k := 2) rfl (by decide) (by decide) rfl (fun ls hl => ?_)
            refine lv_goto (tgt := 39) hx hb dFa_init_103 (by decide) ?_
            refine ih39 (i + 1) (fd + 1) (cl * (V i)) (va_up F1 fd i) (va_up F2 fd cl) ?_ ?_ ?_ ?_ _ _ w ls (lv_sub hl [0, 1, 2, 3, 4, 5, 6] rfl)
            · omega
            · first | (rw [fiR_t c64, ← hR, hcl]; done) | (rw [fiR_f c64, ← hR])
            · first | (rw [cellsF_t c64, hcl]; done) | (rw [cellsF_f c64, hcl])
            · omega
  refine L39 ((n - 0) + 1) 0 0 1 (fun _ => 0) (fun _ => 0) ?_ ?_ ?_ ?_ _ _ w ls (lv_sub hl [0, 1, 2, 3, 4, 5, 6] rfl)
  · omega
  · rfl
  · rfl
  · exact Nat.lt_succ_self _
