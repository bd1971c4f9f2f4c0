def rm_Factor_setEntry : Room := { frames := 1, cells := 0, slots := 0, locals := 23 }
set_option maxHeartbeats 4000000 in
set_option maxRecDepth 100000 in
theorem c_Factor_setEntry (l : Launch) (G : zG) (f fn fs fe fp : Nat) (nx : Option Nat) (t k cs : Nat) (E P : Nat → Nat) (i v : Nat) (hcs : cs ≤ 256) (ht : t ≤ 3) (hi : i < cs) (sz : Nat) : Met l yFa_setEntry (.code yFa_setEntry cFa_setEntry 4 (some .int) :: zT) rm_Factor_setEntry (zPw G [.ref f, .int (nI i), .int (nI v)] [(f, zO 0 [.ref fn, .ref fs, .ref fe, .ref fp, .int (nI k), .int (nI cs), .int (nI t), va_rf nx]), (fe, zI G 256 (fun j => nI (E j))), (fp, zI G 256 (fun j => nI (P j)))] sz) (zQ (S := Unit) G (fun u => some (.int (nI (E i)))) (fun u => [(f, zO 0 [.ref fn, .ref fs, .ref fe, .ref fp, .int (nI k), .int (nI cs), .int (nI t), va_rf nx]), (fe, zI G 256 (fun j => nI ((va_up E i v) j))), (fp, zI G 256 (fun j => nI ((va_up P i (v ^ t)) j)))]) (va_A [(f, zO 0 [.ref fn, .ref fs, .ref fe, .ref fp, .int (nI k), .int (nI cs), .int (nI t), va_rf nx]), (fe, zI G 256 (fun j => nI (E j))), (fp, zI G 256 (fun j => nI (P j)))] sz) (fun u => True)) 0 0 (va_A [(f, zO 0 [.ref fn, .ref fs, .ref fe, .ref fp, .int (nI k), .int (nI cs), .int (nI t), va_rf nx]), (fe, zI G 256 (fun j => nI (E j))), (fp, zI G 256 (fun j => nI (P j)))] sz) := by
  refine z_metWi (by decide) (Nat.le_of_ble_eq_true rfl) (fun p e s m args below meth c ls A Q Sf hnm w hl hret => ?_)
  obtain ⟨H, hH⟩ : ∃ H, H = s.heap := ⟨_, rfl⟩
  obtain ⟨locs, hlo⟩ : ∃ L : List Loc, L = [] := ⟨_, rfl⟩
  rw [← hH, ← hlo] at w
  rw [← hH, ← hlo]
  clear hH hlo
  have Sf : CallFix p m c cFa_setEntry 4 s args zT RFa := Sf
  have hx := Sf.1
  have hb := Sf.2.1
  have hown := Sf.2.2.2.1
  have hts := Sf.2.2.2.2
  have hl : lv_has ls 4 [(0, .ref f), (1, .int (nI i)), (2, .int (nI v))] := hl
  refine lv_aload_n hx hb dFa_setEntry_0 rfl (lv_at hl 0 rfl) ?_
  refine gf_Fa_18 Sf w.1 0 rfl rfl dFa_setEntry_1 ?_
  refine lv_iload_n hx hb dFa_setEntry_4 rfl (lv_at hl 1 rfl) ?_
  refine z_iald hx hb w.1 1 (k := i) rfl (by omega) (by omega) dFa_setEntry_5 ?_
  refine lv_istore_n (lv' := [(3, .int (nI (E i))), (0, .ref f), (1, .int (nI i)), (2, .int (nI v))]) hx hb dFa_setEntry_6 rfl hl (by decide) rfl (fun ls hl => ?_)
  refine lv_aload_n hx hb dFa_setEntry_7 rfl (lv_at hl 1 rfl) ?_
  refine gf_Fa_18 Sf w.1 0 rfl rfl dFa_setEntry_8 ?_
  refine lv_iload_n hx hb dFa_setEntry_11 rfl (lv_at hl 2 rfl) ?_
  refine lv_iload_n hx hb dFa_setEntry_12 rfl (lv_at hl 3 rfl) ?_
  refine z_iastN hx hb w 1 (k := i) rfl (by omega) (by omega) (ws' := [(f, zO 0 [.ref fn, .ref fs, .ref fe, .ref fp, .int (nI k), .int (nI cs), .int (nI t), va_rf nx]), (fe, zI G 256 (fun j => nI ((va_up E i v) j))), (fp, zI G 256 (fun j => nI (P j)))]) rfl dFa_setEntry_13 (fun H locs w => ?_)
  refine lv_aload_n hx hb dFa_setEntry_14 rfl (lv_at hl 1 rfl) ?_
  refine gf_Fa_21 Sf w.1 0 rfl rfl dFa_setEntry_15 ?_
  refine lv_iload_n hx hb dFa_setEntry_18 rfl (lv_at hl 2 rfl) ?_
  refine lv_aload_n hx hb dFa_setEntry_19 rfl (lv_at hl 1 rfl) ?_
  refine lv_iload_n hx hb dFa_setEntry_20 rfl (lv_at hl 3 rfl) ?_
  refine z_rV (As := [.int (nI v)]) (rest := [.int (nI i), .ref fp]) Sf (c_Factor_power l G f fn fs fe fp nx t k cs v (by first | assumption | omega)) mv_Fa_47 ⟨rfl, rfl⟩ ⟨Nat.le_of_ble_eq_true rfl, Nat.le_of_ble_eq_true rfl⟩ w.1 [0] rfl 0 rfl rfl rfl rfl hl.1 rfl (Nat.le_of_ble_eq_true rfl) dFa_setEntry_21 ⟨Nat.le_of_ble_eq_true rfl, Nat.le_of_ble_eq_true rfl⟩ ?_
  refine z_iastN hx hb w 2 (k := i) rfl (by omega) (by omega) (ws' := [(f, zO 0 [.ref fn, .ref fs, .ref fe, .ref fp, .int (nI k), .int (nI cs), .int (nI t), va_rf nx]), (fe, zI G 256 (fun j => nI ((va_up E i v) j))), (fp, zI G 256 (fun j => nI ((va_up P i (v ^ t)) j)))]) rfl dFa_setEntry_24 (fun H locs w => ?_)
  refine lv_iload_n hx hb dFa_setEntry_25 rfl (lv_at hl 0 rfl) ?_
  exact hret _ _ _ _ () _ _ w (rfl) (trivial) dFa_setEntry_26 (rfl)

def rm_Factor_setTimes : Room := { frames := 1, cells := 0, slots := 0, locals := 23 }
set_option maxHeartbeats 4000000 in
set_option maxRecDepth 100000 in
theorem c_Factor_setTimes (l : Launch) (G : zG) (f fn fs fe fp : Nat) (nx : Option Nat) (t k cs : Nat) (E P : Nat → Nat) (n : Nat) (hcs : cs ≤ 256) (hn : n ≤ 3) (sz : Nat) : Met l yFa_setTimes (.code yFa_setTimes cFa_setTimes 4 (some .int) :: zT) rm_Factor_setTimes (zPw G [.ref f, .int (nI n)] [(f, zO 0 [.ref fn, .ref fs, .ref fe, .ref fp, .int (nI k), .int (nI cs), .int (nI t), va_rf nx]), (fe, zI G 256 (fun j => nI (E j))), (fp, zI G 256 (fun j => nI (P j)))] sz) (zQ (S := Unit) G (fun u => some (.int (nI t))) (fun u => [(f, zO 0 [.ref fn, .ref fs, .ref fe, .ref fp, .int (nI k), .int (nI cs), .int (nI n), va_rf nx]), (fe, zI G 256 (fun j => nI (E j))), (fp, zI G 256 (fun j => nI ((rowF P (fun e => E e ^ n) cs) j)))]) (va_A [(f, zO 0 [.ref fn, .ref fs, .ref fe, .ref fp, .int (nI k), .int (nI cs), .int (nI t), va_rf nx]), (fe, zI G 256 (fun j => nI (E j))), (fp, zI G 256 (fun j => nI (P j)))] sz) (fun u => True)) 0 0 (va_A [(f, zO 0 [.ref fn, .ref fs, .ref fe, .ref fp, .int (nI k), .int (nI cs), .int (nI t), va_rf nx]), (fe, zI G 256 (fun j => nI (E j))), (fp, zI G 256 (fun j => nI (P j)))] sz) := by
  refine z_metWi (by decide) (Nat.le_of_ble_eq_true rfl) (fun p e s m args below meth c ls A Q Sf hnm w hl hret => ?_)
  obtain ⟨H, hH⟩ : ∃ H, H = s.heap := ⟨_, rfl⟩
  obtain ⟨locs, hlo⟩ : ∃ L : List Loc, L = [] := ⟨_, rfl⟩
  rw [← hH, ← hlo] at w
  rw [← hH, ← hlo]
  clear hH hlo
  have Sf : CallFix p m c cFa_setTimes 4 s args zT RFa := Sf
  have hx := Sf.1
  have hb := Sf.2.1
  have hown := Sf.2.2.2.1
  have hts := Sf.2.2.2.2
  have hl : lv_has ls 4 [(0, .ref f), (1, .int (nI n))] := hl
  refine lv_aload_n hx hb dFa_setTimes_0 rfl (lv_at hl 0 rfl) ?_
  refine gf_Fa_28 Sf w.1 0 rfl rfl dFa_setTimes_1 ?_
  refine lv_istore_n (lv' := [(2, .int (nI t)), (0, .ref f), (1, .int (nI n))]) hx hb dFa_setTimes_4 rfl hl (by decide) rfl (fun ls hl => ?_)
  refine lv_aload_n hx hb dFa_setTimes_5 rfl (lv_at hl 1 rfl) ?_
  refine lv_iload_n hx hb dFa_setTimes_6 rfl (lv_at hl 2 rfl) ?_
  refine pf_Fa_28 Sf w 0 rfl rfl rfl (Nat.le_of_ble_eq_true rfl) (ws' := [(f, zO 0 [.ref fn, .ref fs, .ref fe, .ref fp, .int (nI k), .int (nI cs), .int (nI n), va_rf nx]), (fe, zI G 256 (fun j => nI (E j))), (fp, zI G 256 (fun j => nI (P j)))]) rfl dFa_setTimes_7 (fun H locs w => ?_)
  refine lv_iconst (v := (nI 0)) hx hb dFa_setTimes_10 (by decide) ?_
  refine lv_istore_n (lv' := [(3, .int (nI 0)), (2, .int (nI t)), (0, .ref f), (1, .int (nI n))]) hx hb dFa_setTimes_11 rfl hl (by decide) rfl (fun ls hl => ?_)
  have L12 : ∀ (fu12 : Nat) (i : Nat) (F : Nat → Nat), (i ≤ cs) → (F = rowF P (fun e => E e ^ n) i) → (cs - i) < fu12 → ∀ (H : Heap) (locs : List Loc), zw G A s [(f, zO 0 [.ref fn, .ref fs, .ref fe, .ref fp, .int (nI k), .int (nI cs), .int (nI n), va_rf nx]), (fe, zI G 256 (fun j => nI (E j))), (fp, zI G 256 (fun j => nI (F j)))] H locs → ∀ (ls : Array Slot), lv_has ls 4 [(3, .int (nI i)), (2, .int (nI t)), (0, .ref f), (1, .int (nI n))] → W p l e rm_Factor_setTimes s m args below meth c H locs 0 0 Q (F0 m 12 ls []) := by
    intro fu12
    induction fu12 with
    | zero =>
      intro i F hi hF hm12
      exact absurd hm12 (Nat.not_lt_zero _)
    | succ fu12 ih12 =>
      intro i F hi hF hm12 H locs w ls hl
      refine lv_iload_n hx hb dFa_setTimes_12 rfl (lv_at hl 0 rfl) ?_
      refine lv_aload_n hx hb dFa_setTimes_13 rfl (lv_at hl 2 rfl) ?_
      refine gf_Fa_24 Sf w.1 0 rfl rfl dFa_setTimes_14 ?_
      refine z_icmpge (tgt := 42) hx hb (by omega) (by omega) dFa_setTimes_17 (by decide) (fun c17 => ?_) (fun c17 => ?_)
      · skip
        refine lv_iload_n hx hb dFa_setTimes_42 rfl (lv_at hl 1 rfl) ?_
        exact hret _ _ _ _ () _ _ w (by rw [hF, show i = cs by omega]) (trivial) dFa_setTimes_43 (rfl)
      · skip
        refine lv_aload_n hx hb dFa_setTimes_20 rfl (lv_at hl 2 rfl) ?_
        refine gf_Fa_21 Sf w.1 0 rfl rfl dFa_setTimes_21 ?_
        refine lv_iload_n hx hb dFa_setTimes_24 rfl (lv_at hl 0 rfl) ?_
        refine lv_aload_n hx hb dFa_setTimes_25 rfl (lv_at hl 2 rfl) ?_
        refine lv_aload_n hx hb dFa_setTimes_26 rfl (lv_at hl 2 rfl) ?_
        refine gf_Fa_18 Sf w.1 0 rfl rfl dFa_setTimes_27 ?_
        refine lv_iload_n hx hb dFa_setTimes_30 rfl (lv_at hl 0 rfl) ?_
        refine z_iald hx hb w.1 1 (k := i) rfl (by omega) (by omega) dFa_setTimes_31 ?_
        refine z_rV (As := [.int (nI (E i))]) (rest := [.int (nI i), .ref fp]) Sf (c_Factor_power l G f fn fs fe fp nx n k cs (E i) (by first | assumption | omega)) mv_Fa_47 ⟨rfl, rfl⟩ ⟨Nat.le_of_ble_eq_true rfl, Nat.le_of_ble_eq_true rfl⟩ w.1 [0] rfl 0 rfl rfl rfl rfl hl.1 rfl (Nat.le_of_ble_eq_true rfl) dFa_setTimes_32 ⟨Nat.le_of_ble_eq_true rfl, Nat.le_of_ble_eq_true rfl⟩ ?_
        refine z_iastN hx hb w 2 (k := i) rfl (by omega) (by omega) (ws' := [(f, zO 0 [.ref fn, .ref fs, .ref fe, .ref fp, .int (nI k), .int (nI cs), .int (nI n), va_rf nx]), (fe, zI G 256 (fun j => nI (E j))), (fp, zI G 256 (fun j => nI ((va_up F i ((E i) ^ n)) j)))]) rfl dFa_setTimes_35 (fun H locs w => ?_)
        refine z_iinc (d := 1) (lv' := [(3, .int (nI (i + 1))), (2, .int (nI t)), (0, .ref f), (1, .int (nI n))]) hx hb dFa_setTimes_36 hl (k := 0) rfl (by decide) (by decide) rfl (fun ls hl => ?_)
        refine lv_goto (tgt := 12) hx hb dFa_setTimes_39 (by decide) ?_
        refine ih12 (i + 1) (va_up F i ((E i) ^ n)) ?_ ?_ ?_ _ _ w ls (lv_sub hl [0, 1, 2, 3] rfl)
        · omega
        · rw [hF]; exact rowF_s _ (fun e => E e ^ n) i
        · omega
  refine L12 ((cs - 0) + 1) 0 P ?_ ?_ ?_ _ _ w ls (lv_sub hl [0, 1, 2, 3] rfl)
  · omega
  · exact (rowF_0 _ _).symm
  · exact Nat.lt_succ_self _

def rm_Factor_multiply : Room := { frames := 1, cells := 0, slots := 0, locals := 23 }
set_option maxHeartbeats 4000000 in
set_option maxRecDepth 100000 in
theorem c_Factor_multiply (l : Launch) (G : zG) (f fn fs fe fp : Nat) (nx : Option Nat) (t k cs : Nat) (nm sp P C Pr : Nat → Nat) (ch pr fr cnt : Nat) (hcs : cs ≤ 256) (hk : 0 < k ∧ k ≤ 4) (hnm0 : ∀ i, i < k → nm i < 12) (hfr : fr + cnt ≤ 48) (hP : ∀ i, P i ≤ 343) (he : ∀ v, v < cnt → entF nm sp C k + v * sp (k - 1) < cs) (sz : Nat) : Met l yFa_multiply (.code yFa_multiply cFa_multiply 8 none :: zT) rm_Factor_multiply (zPw G [.ref f, .ref pr, .int (nI fr), .int (nI cnt), .ref ch] [(f, zO 0 [.ref fn, .ref fs, .ref fe, .ref fp, .int (nI k), .int (nI cs), .int (nI t), va_rf nx]), (fn, zI G 4 (fun j => nI (nm j))), (fs, zI G 4 (fun j => nI (sp j))), (ch, zI G 12 (fun j => nI (C j))), (fp, zI G 256 (fun j => nI (P j))), (pr, zL G 48 (fun j => lN (Pr j)))] sz) (zQ (S := Unit) G (fun u => none) (fun u => [(f, zO 0 [.ref fn, .ref fs, .ref fe, .ref fp, .int (nI k), .int (nI cs), .int (nI t), va_rf nx]), (fn, zI G 4 (fun j => nI (nm j))), (fs, zI G 4 (fun j => nI (sp j))), (ch, zI G 12 (fun j => nI (C j))), (fp, zI G 256 (fun j => nI (P j))), (pr, zL G 48 (fun j => lN ((mulF Pr P fr (entF nm sp C k) (sp (k - 1)) cnt) j)))]) (va_A [(f, zO 0 [.ref fn, .ref fs, .ref fe, .ref fp, .int (nI k), .int (nI cs), .int (nI t), va_rf nx]), (fn, zI G 4 (fun j => nI (nm j))), (fs, zI G 4 (fun j => nI (sp j))), (ch, zI G 12 (fun j => nI (C j))), (fp, zI G 256 (fun j => nI (P j))), (pr, zL G 48 (fun j => lN (Pr j)))] sz) (fun u => True)) 0 0 (va_A [(f, zO 0 [.ref fn, .ref fs, .ref fe, .ref fp, .int (nI k), .int (nI cs), .int (nI t), va_rf nx]), (fn, zI G 4 (fun j => nI (nm j))), (fs, zI G 4 (fun j => nI (sp j))), (ch, zI G 12 (fun j => nI (C j))), (fp, zI G 256 (fun j => nI (P j))), (pr, zL G 48 (fun j => lN (Pr j)))] sz) := by
  refine z_metWv (by decide) (Nat.le_of_ble_eq_true rfl) (fun p e s m args below meth c ls A Q Sf hnm w hl hret => ?_)
  obtain ⟨H, hH⟩ : ∃ H, H = s.heap := ⟨_, rfl⟩
  obtain ⟨locs, hlo⟩ : ∃ L : List Loc, L = [] := ⟨_, rfl⟩
  rw [← hH, ← hlo] at w
  rw [← hH, ← hlo]
  clear hH hlo
  have Sf : CallFix p m c cFa_multiply 8 s args zT RFa := Sf
  have hx := Sf.1
  have hb := Sf.2.1
  have hown := Sf.2.2.2.1
  have hts := Sf.2.2.2.2
  have hl : lv_has ls 8 [(0, .ref f), (1, .ref pr), (2, .int (nI fr)), (3, .int (nI cnt)), (4, .ref ch)] := hl
  refine lv_aload_n hx hb dFa_multiply_0 rfl (lv_at hl 0 rfl) ?_
  refine gf_Fa_41 Sf w.1 0 rfl rfl dFa_multiply_1 ?_
  refine z_ifneN (tgt := 11) hx hb (by omega) dFa_multiply_4 (by decide) (fun c4 => ?_) (fun c4 => ?_)
  · skip
    refine lv_aload_n hx hb dFa_multiply_11 rfl (lv_at hl 0 rfl) ?_
    refine gf_Fa_15 Sf w.1 0 rfl rfl dFa_multiply_12 ?_
    refine lv_aload_n hx hb dFa_multiply_15 rfl (lv_at hl 0 rfl) ?_
    refine gf_Fa_41 Sf w.1 0 rfl rfl dFa_multiply_16 ?_
    refine lv_iconst (v := (nI 1)) hx hb dFa_multiply_19 (by decide) ?_
    refine z_subN hx hb (by omega) dFa_multiply_20 ?_
    refine z_iald hx hb w.1 2 (k := (k - 1)) rfl (by omega) (by omega) dFa_multiply_21 ?_
    refine lv_istore (lv' := [(5, .int (nI (sp (k - 1)))), (0, .ref f), (1, .ref pr), (2, .int (nI fr)), (3, .int (nI cnt)), (4, .ref ch)]) hx hb dFa_multiply_22 hl (by decide) rfl (fun ls hl => ?_)
    refine lv_aload_n hx hb dFa_multiply_24 rfl (lv_at hl 1 rfl) ?_
    refine lv_aload hx hb dFa_multiply_25 (lv_at hl 5 rfl) ?_
    refine z_rV (As := [.ref ch]) (rest := []) Sf (c_Factor_entryAt l G f fn fs fe fp nx t k cs nm sp C ch hk.2 (by first | assumption | omega)) mv_Fa_51 ⟨rfl, rfl⟩ ⟨Nat.le_of_ble_eq_true rfl, Nat.le_of_ble_eq_true rfl⟩ w.1 [0, 1, 2, 3] rfl 0 rfl rfl rfl rfl hl.1 rfl (Nat.le_of_ble_eq_true rfl) dFa_multiply_27 ⟨Nat.le_of_ble_eq_true rfl, Nat.le_of_ble_eq_true rfl⟩ ?_
    refine lv_istore (lv' := [(6, .int (nI (entF nm sp C k))), (5, .int (nI (sp (k - 1)))), (0, .ref f), (1, .ref pr), (2, .int (nI fr)), (3, .int (nI cnt)), (4, .ref ch)]) hx hb dFa_multiply_30 hl (by decide) rfl (fun ls hl => ?_)
    refine lv_iconst (v := (nI 0)) hx hb dFa_multiply_32 (by decide) ?_
    refine lv_istore (lv' := [(7, .int (nI 0)), (6, .int (nI (entF nm sp C k))), (5, .int (nI (sp (k - 1)))), (0, .ref f), (1, .ref pr), (2, .int (nI fr)), (3, .int (nI cnt)), (4, .ref ch)]) hx hb dFa_multiply_33 hl (by decide) rfl (fun ls hl => ?_)
    have L35 : ∀ (fu35 : Nat) (v x : Nat) (F : Nat → Nat), (v ≤ cnt) → (x = entF nm sp C k + v * sp (k - 1)) → (F = mulF Pr P fr (entF nm sp C k) (sp (k - 1)) v) → (cnt - v) < fu35 → ∀ (H : Heap) (locs : List Loc), zw G A s [(f, zO 0 [.ref fn, .ref fs, .ref fe, .ref fp, .int (nI k), .int (nI cs), .int (nI t), va_rf nx]), (fn, zI G 4 (fun j => nI (nm j))), (fs, zI G 4 (fun j => nI (sp j))), (ch, zI G 12 (fun j => nI (C j))), (fp, zI G 256 (fun j => nI (P j))), (pr, zL G 48 (fun j => lN (F j)))] H locs → ∀ (ls : Array Slot), lv_has ls 8 [(7, .int (nI v)), (6, .int (nI x)), (5, .int (nI (sp (k - 1)))), (0, .ref f), (1, .ref pr), (2, .int (nI fr)), (3, .int (nI cnt)), (4, .ref ch)] → W p l e rm_Factor_multiply s m args below meth c H locs 0 0 Q (F0 m 35 ls []) := by
      intro fu35
      induction fu35 with
      | zero =>
        intro v x F hv hx0 hF hm35
        exact absurd hm35 (Nat.not_lt_zero _)
      | succ fu35 ih35 =>
        intro v x F hv hx0 hF hm35 H locs w ls hl
        refine lv_iload hx hb dFa_multiply_35 (lv_at hl 0 rfl) ?_
        refine lv_iload_n hx hb dFa_multiply_37 rfl (lv_at hl 6 rfl) ?_
        refine z_icmpge (tgt := 80) hx hb (by omega) (by omega) dFa_multiply_38 (by decide) (fun c38 => ?_) (fun c38 => ?_)
        · skip
          exact hret _ _ _ _ () _ w (by rw [hF, show v = cnt by omega]) (trivial) dFa_multiply_80 rfl
        · skip
          have he2 := he v (by omega)
          refine lv_iload hx hb dFa_multiply_41 (lv_at hl 1 rfl) ?_
          refine lv_aload_n hx hb dFa_multiply_43 rfl (lv_at hl 3 rfl) ?_
          refine gf_Fa_24 Sf w.1 0 rfl rfl dFa_multiply_44 ?_
          refine z_icmpge (tgt := 80) hx hb (by omega) (by omega) dFa_multiply_47 (by decide) (fun c47 => ?_) (fun c47 => ?_)
          · skip
            exact absurd c47 (by have := he v (by omega); omega)
          · skip
            refine lv_aload_n hx hb dFa_multiply_50 rfl (lv_at hl 4 rfl) ?_
            refine lv_iload_n hx hb dFa_multiply_51 rfl (lv_at hl 5 rfl) ?_
            refine lv_iload hx hb dFa_multiply_52 (lv_at hl 0 rfl) ?_
            refine z_addN hx hb dFa_multiply_54 ?_
            refine lv_dup2_11 hx hb dFa_multiply_55 rfl rfl ?_
            refine z_lald hx hb w.1 5 (k := (fr + v)) rfl (by omega) (by omega) dFa_multiply_56 ?_
            refine lv_aload_n hx hb dFa_multiply_57 rfl (lv_at hl 3 rfl) ?_
            refine gf_Fa_21 Sf w.1 0 rfl rfl dFa_multiply_58 ?_
            refine lv_iload hx hb dFa_multiply_61 (lv_at hl 1 rfl) ?_
            refine z_iald hx hb w.1 4 (k := x) rfl (by omega) (by omega) dFa_multiply_63 ?_
            refine lv_i2l (v := lN (P x)) hx hb dFa_multiply_64 (nI_l (Nat.lt_of_le_of_lt (hP _) (by decide))) ?_
            refine z_lmulN hx hb dFa_multiply_65 ?_
            refine z_lastN hx hb w 5 (k := (fr + v)) rfl (by omega) (by omega) (ws' := [(f, zO 0 [.ref fn, .ref fs, .ref fe, .ref fp, .int (nI k), .int (nI cs), .int (nI t), va_rf nx]), (fn, zI G 4 (fun j => nI (nm j))), (fs, zI G 4 (fun j => nI (sp j))), (ch, zI G 12 (fun j => nI (C j))), (fp, zI G 256 (fun j => nI (P j))), (pr, zL G 48 (fun j => lN ((va_up F (fr + v) ((F (fr + v)) * (P x))) j)))]) rfl dFa_multiply_66 (fun H locs w => ?_)
            refine lv_iload hx hb dFa_multiply_67 (lv_at hl 1 rfl) ?_
            refine lv_iload hx hb dFa_multiply_69 (lv_at hl 2 rfl) ?_
            refine z_addN hx hb dFa_multiply_71 ?_
            refine lv_istore (lv' := [(6, .int (nI (x + (sp (k - 1))))), (7, .int (nI v)), (5, .int (nI (sp (k - 1)))), (0, .ref f), (1, .ref pr), (2, .int (nI fr)), (3, .int (nI cnt)), (4, .ref ch)]) hx hb dFa_multiply_72 hl (by decide) rfl (fun ls hl => ?_)
            refine z_iinc (d := 1) (lv' := [(7, .int (nI (v + 1))), (6, .int (nI (x + (sp (k - 1))))), (5, .int (nI (sp (k - 1)))), (0, .ref f), (1, .ref pr), (2, .int (nI fr)), (3, .int (nI cnt)), (4, .ref ch)]) hx hb dFa_multiply_74 hl (k := 1) rfl (by decide) (by decide) rfl (fun ls hl => ?_)
            refine lv_goto (tgt := 35) hx hb dFa_multiply_77 (by decide) ?_
            refine ih35 (v + 1) (x + (sp (k - 1))) (va_up F (fr + v) ((F (fr + v)) * (P x))) ?_ ?_ ?_ ?_ _ _ w ls (lv_sub hl [0, 1, 2, 3, 4, 5, 6, 7] rfl)
            · omega
            · rw [hx0, Nat.add_mul, Nat.one_mul, Nat.add_assoc]
            · rw [hF, mulF_at, hx0]; exact mulF_s _ _ _ _ _ _
            · omega
    refine L35 ((cnt - 0) + 1) 0 (entF nm sp C k) Pr ?_ ?_ ?_ ?_ _ _ w ls (lv_sub hl [0, 1, 2, 3, 4, 5, 6, 7] rfl)
    · omega
    · rw [Nat.zero_mul, Nat.add_zero]
    · exact (mulF_0 _ _ _ _ _).symm
    · exact Nat.lt_succ_self _
  · skip
    exact absurd c4 (by omega)

def rm_Factor_init : Room := { frames := 1, cells := 4, slots := 520, locals := 40 }
set_option maxHeartbeats 4000000 in
set_option maxRecDepth 100000 in
theorem c_Factor_init (l : Launch) (G : zG) (f : Nat)  (sz : Nat) : Met l yFa_init (.code yFa_init cFa_init 1 none :: zT) rm_Factor_init (zPw G [.ref f] [(f, zO 0 [.null, .null, .null, .null, .int (nI 0), .int (nI 0), .int (nI 0), .null])] sz) (zQ (S := Nat × Nat × Nat × Nat) G (fun u => none) (fun u => [(f, zO 0 [.ref u.1, .ref u.2.1, .ref u.2.2.1, .ref u.2.2.2, .int (nI 0), .int (nI 1), .int (nI 1), .null]), (u.1, zI G 4 (fun j => nI ((fun _ => 0) j))), (u.2.1, zI G 4 (fun j => nI ((fun _ => 0) j))), (u.2.2.1, zI G 256 (fun j => nI ((rowF (fun _ => 0) (fun _ => 1) 256) j))), (u.2.2.2, zI G 256 (fun j => nI ((rowF (fun _ => 0) (fun _ => 1) 256) j)))]) (va_A [(f, zO 0 [.null, .null, .null, .null, .int (nI 0), .int (nI 0), .int (nI 0), .null])] sz) (fun u => True)) 4 520 (va_A [(f, zO 0 [.null, .null, .null, .null, .int (nI 0), .int (nI 0), .int (nI 0), .null])] sz) := by
  refine z_metWv (by decide) (Nat.le_of_ble_eq_true rfl) (fun p e s m args below meth c ls A Q Sf hnm w hl hret => ?_)
  obtain ⟨H, hH⟩ : ∃ H, H = s.heap := ⟨_, rfl⟩
  obtain ⟨locs, hlo⟩ : ∃ L : List Loc, L = [] := ⟨_, rfl⟩
  rw [← hH, ← hlo] at w
  rw [← hH, ← hlo]
  clear hH hlo
  have Sf : CallFix p m c cFa_init 1 s args zT RFa := Sf
  have hx := Sf.1
  have hb := Sf.2.1
  have hown := Sf.2.2.2.1
  have hts := Sf.2.2.2.2
  have hl : lv_has ls 1 [(0, .ref f)] := hl
  refine lv_aload_n hx hb dFa_init_0 rfl (lv_at hl 0 rfl) ?_
  refine W.objInit hx hb hown (hts _ oi_Fa_3) (hts _ oi_inst) (hts _ oi_code) rfl (by rw [Sf.2.2.1]; exact hl.1) rfl dFa_init_1 (Nat.le_of_ble_eq_true rfl) (Nat.le_of_ble_eq_true rfl) ?_
  refine W.eq (g2 := F0 m 4 ls []) rfl ?_
  refine lv_aload_n hx hb dFa_init_4 rfl (lv_at hl 0 rfl) ?_
  refine lv_iconst (v := (nI 4)) hx hb dFa_init_5 (by decide) ?_
  refine z_newi hx hb hts ka_int w (N := 4) (by omega) (by decide) (by decide) dFa_init_6 (fun q1 H w => ?_)
  have w := w.eq (ws' := [(f, zO 0 [.null, .null, .null, .null, .int (nI 0), .int (nI 0), .int (nI 0), .null]), (q1, zI G 4 (fun j => nI ((fun _ => 0) j)))]) rfl
  refine pf_Fa_9 Sf hnm w 0 rfl rfl rfl (Nat.le_of_ble_eq_true rfl) (ws' := [(f, zO 0 [.ref q1, .null, .null, .null, .int (nI 0), .int (nI 0), .int (nI 0), .null]), (q1, zI G 4 (fun j => nI ((fun _ => 0) j)))]) rfl dFa_init_8 (fun H locs w => ?_)
  refine lv_aload_n hx hb dFa_init_11 rfl (lv_at hl 0 rfl) ?_
  refine lv_iconst (v := (nI 4)) hx hb dFa_init_12 (by decide) ?_
  refine z_newi hx hb hts ka_int w (N := 4) (by omega) (by decide) (by decide) dFa_init_13 (fun q2 H w => ?_)
  have w := w.eq (ws' := [(f, zO 0 [.ref q1, .null, .null, .null, .int (nI 0), .int (nI 0), .int (nI 0), .null]), (q1, zI G 4 (fun j => nI ((fun _ => 0) j))), (q2, zI G 4 (fun j => nI ((fun _ => 0) j)))]) rfl
  refine pf_Fa_15 Sf hnm w 0 rfl rfl rfl (Nat.le_of_ble_eq_true rfl) (ws' := [(f, zO 0 [.ref q1, .ref q2, .null, .null, .int (nI 0), .int (nI 0), .int (nI 0), .null]), (q1, zI G 4 (fun j => nI ((fun _ => 0) j))), (q2, zI G 4 (fun j => nI ((fun _ => 0) j)))]) rfl dFa_init_15 (fun H locs w => ?_)
  refine lv_aload_n hx hb dFa_init_18 rfl (lv_at hl 0 rfl) ?_
  refine lv_sipush (v := nI 256) hx hb dFa_init_19 (by decide) ?_
  refine z_newi hx hb hts ka_int w (N := 256) (by omega) (by decide) (by decide) dFa_init_22 (fun q3 H w => ?_)
  have w := w.eq (ws' := [(f, zO 0 [.ref q1, .ref q2, .null, .null, .int (nI 0), .int (nI 0), .int (nI 0), .null]), (q1, zI G 4 (fun j => nI ((fun _ => 0) j))), (q2, zI G 4 (fun j => nI ((fun _ => 0) j))), (q3, zI G 256 (fun j => nI ((fun _ => 0) j)))]) rfl
  refine pf_Fa_18 Sf hnm w 0 rfl rfl rfl (Nat.le_of_ble_eq_true rfl) (ws' := [(f, zO 0 [.ref q1, .ref q2, .ref q3, .null, .int (nI 0), .int (nI 0), .int (nI 0), .null]), (q1, zI G 4 (fun j => nI ((fun _ => 0) j))), (q2, zI G 4 (fun j => nI ((fun _ => 0) j))), (q3, zI G 256 (fun j => nI ((fun _ => 0) j)))]) rfl dFa_init_24 (fun H locs w => ?_)
  refine lv_aload_n hx hb dFa_init_27 rfl (lv_at hl 0 rfl) ?_
  refine lv_sipush (v := nI 256) hx hb dFa_init_28 (by decide) ?_
  refine z_newi hx hb hts ka_int w (N := 256) (by omega) (by decide) (by decide) dFa_init_31 (fun q4 H w => ?_)
  have w := w.eq (ws' := [(f, zO 0 [.ref q1, .ref q2, .ref q3, .null, .int (nI 0), .int (nI 0), .int (nI 0), .null]), (q1, zI G 4 (fun j => nI ((fun _ => 0) j))), (q2, zI G 4 (fun j => nI ((fun _ => 0) j))), (q3, zI G 256 (fun j => nI ((fun _ => 0) j))), (q4, zI G 256 (fun j => nI ((fun _ => 0) j)))]) rfl
  refine pf_Fa_21 Sf hnm w 0 rfl rfl rfl (Nat.le_of_ble_eq_true rfl) (ws' := [(f, zO 0 [.ref q1, .ref q2, .ref q3, .ref q4, .int (nI 0), .int (nI 0), .int (nI 0), .null]), (q1, zI G 4 (fun j => nI ((fun _ => 0) j))), (q2, zI G 4 (fun j => nI ((fun _ => 0) j))), (q3, zI G 256 (fun j => nI ((fun _ => 0) j))), (q4, zI G 256 (fun j => nI ((fun _ => 0) j)))]) rfl dFa_init_33 (fun H locs w => ?_)
  refine lv_aload_n hx hb dFa_init_36 rfl (lv_at hl 0 rfl) ?_
  refine lv_iconst (v := (nI 1)) hx hb dFa_init_37 (by decide) ?_
  refine pf_Fa_24 Sf w 0 rfl rfl rfl (Nat.le_of_ble_eq_true rfl) (ws' := [(f, zO 0 [.ref q1, .ref q2, .ref q3, .ref q4, .int (nI 0), .int (nI 1), .int (nI 0), .null]), (q1, zI G 4 (fun j => nI ((fun _ => 0) j))), (q2, zI G 4 (fun j => nI ((fun _ => 0) j))), (q3, zI G 256 (fun j => nI ((fun _ => 0) j))), (q4, zI G 256 (fun j => nI ((fun _ => 0) j)))]) rfl dFa_init_38 (fun H locs w => ?_)
  refine lv_aload_n hx hb dFa_init_41 rfl (lv_at hl 0 rfl) ?_
  refine lv_iconst (v := (nI 1)) hx hb dFa_init_42 (by decide) ?_
  refine pf_Fa_28 Sf w 0 rfl rfl rfl (Nat.le_of_ble_eq_true rfl) (ws' := [(f, zO 0 [.ref q1, .ref q2, .ref q3, .ref q4, .int (nI 0), .int (nI 1), .int (nI 1), .null]), (q1, zI G 4 (fun j => nI ((fun _ => 0) j))), (q2, zI G 4 (fun j => nI ((fun _ => 0) j))), (q3, zI G 256 (fun j => nI ((fun _ => 0) j))), (q4, zI G 256 (fun j => nI ((fun _ => 0) j)))]) rfl dFa_init_43 (fun H locs w => ?_)
  refine lv_aload_n hx hb dFa_init_46 rfl (lv_at hl 0 rfl) ?_
  refine gf_Fa_18 Sf w.1 0 rfl rfl dFa_init_47 ?_
  refine lv_iconst (v := (nI 1)) hx hb dFa_init_50 (by decide) ?_
  refine z_wS (wr := [(f, zO 0 [.ref q1, .ref q2, .ref q3, .ref q4, .int (nI 0), .int (nI 1), .int (nI 1), .null]), (q1, zI G 4 (fun j => nI ((fun _ => 0) j))), (q2, zI G 4 (fun j => nI ((fun _ => 0) j))), (q4, zI G 256 (fun j => nI ((fun _ => 0) j)))]) (As := [.ref q3, .int (nI 1)]) (rest := []) Sf (c_fillN l G q3 256 (fun _ => 0) 1 (by first | assumption | omega) H.size) mv_Fa_31 ⟨rfl, rfl⟩ ⟨Nat.le_of_ble_eq_true rfl, Nat.le_of_ble_eq_true rfl⟩ w [3] [0, 1, 2, 4] rfl rfl (by decide) (by decide) (by decide) rfl hl.1 rfl (Nat.le_of_ble_eq_true rfl) dFa_init_51 ⟨Nat.le_of_ble_eq_true rfl, Nat.le_of_ble_eq_true rfl⟩ (fun u5 H locs hu5 w => ?_)
  have w := w.eq (ws' := [(f, zO 0 [.ref q1, .ref q2, .ref q3, .ref q4, .int (nI 0), .int (nI 1), .int (nI 1), .null]), (q1, zI G 4 (fun j => nI ((fun _ => 0) j))), (q2, zI G 4 (fun j => nI ((fun _ => 0) j))), (q4, zI G 256 (fun j => nI ((fun _ => 0) j))), (q3, zI G 256 (fun j => nI ((rowF (fun _ => 0) (fun _ => 1) 256) j)))]) rfl
  refine W.eq (g2 := F0 m 54 ls []) rfl ?_
  refine lv_aload_n hx hb dFa_init_54 rfl (lv_at hl 0 rfl) ?_
  refine gf_Fa_21 Sf w.1 0 rfl rfl dFa_init_55 ?_
  refine lv_iconst (v := (nI 1)) hx hb dFa_init_58 (by decide) ?_
  refine z_wS (wr := [(f, zO 0 [.ref q1, .ref q2, .ref q3, .ref q4, .int (nI 0), .int (nI 1), .int (nI 1), .null]), (q1, zI G 4 (fun j => nI ((fun _ => 0) j))), (q2, zI G 4 (fun j => nI ((fun _ => 0) j))), (q3, zI G 256 (fun j => nI ((rowF (fun _ => 0) (fun _ => 1) 256) j)))]) (As := [.ref q4, .int (nI 1)]) (rest := []) Sf (c_fillN l G q4 256 (fun _ => 0) 1 (by first | assumption | omega) H.size) mv_Fa_31 ⟨rfl, rfl⟩ ⟨Nat.le_of_ble_eq_true rfl, Nat.le_of_ble_eq_true rfl⟩ w [3] [0, 1, 2, 4] rfl rfl (by decide) (by decide) (by decide) rfl hl.1 rfl (Nat.le_of_ble_eq_true rfl) dFa_init_59 ⟨Nat.le_of_ble_eq_true rfl, Nat.le_of_ble_eq_true rfl⟩ (fun u6 H locs hu6 w => ?_)
  have w := w.eq (ws' := [(f, zO 0 [.ref q1, .ref q2, .ref q3, .ref q4, .int (nI 0), .int (nI 1), .int (nI 1), .null]), (q1, zI G 4 (fun j => nI ((fun _ => 0) j))), (q2, zI G 4 (fun j => nI ((fun _ => 0) j))), (q3, zI G 256 (fun j => nI ((rowF (fun _ => 0) (fun _ => 1) 256) j))), (q4, zI G 256 (fun j => nI ((rowF (fun _ => 0) (fun _ => 1) 256) j)))]) rfl
  refine W.eq (g2 := F0 m 62 ls []) rfl ?_
  exact hret _ _ _ _ (q1, q2, q3, q4) _ w (rfl) (trivial) dFa_init_62 rfl

def rm_Factor_spanNames : Room := { frames := 0, cells := 0, slots := 0, locals := 0 }
set_option maxHeartbeats 4000000 in
set_option maxRecDepth 100000 in
theorem c_Factor_spanNames (l : Launch) (G : zG) (f fn fs fe fp : Nat) (nx : Option Nat) (t : Nat) (g av an : Nat) (n : Nat) (st : Int32) (V : Nat → Nat) (S : Nat) (hn : n ≤ 12) (hS : S < 4096) (hp4 : popc S ≤ 4) (sz : Nat) : Met l yFa_spanNames (.code yFa_spanNames cFa_spanNames 4 none :: zT) rm_Factor_spanNames (zPw G [.ref f, .int (nI S), .ref g] [(f, zO 0 [.ref fn, .ref fs, .ref fe, .ref fp, .int (nI 0), .int (nI 1), .int (nI t), va_rf nx]), (g, zO 2 [.ref av, .ref an, .int (nI n), .int st]), (av, zI G 12 (fun j => nI (V j))), (fn, zI G 4 (fun j => nI ((fun _ => 0) j))), (fs, zI G 4 (fun j => nI ((fun _ => 0) j)))] sz) (zQ (S := Unit) G (fun u => none) (fun u => [(f, zO 0 [.ref fn, .ref fs, .ref fe, .ref fp, .int (nI ((fiR V S n).1)), .int (nI (cellsF V S n)), .int (nI t), va_rf nx]), (g, zO 2 [.ref av, .ref an, .int (nI n), .int st]), (av, zI G 12 (fun j => nI (V j))), (fn, zI G 4 (fun j => nI (((fiR V S n).2.1) j))), (fs, zI G 4 (fun j => nI (((fiR V S n).2.2) j)))]) (va_A [(f, zO 0 [.ref fn, .ref fs, .ref fe, .ref fp, .int (nI 0), .int (nI 1), .int (nI t), va_rf nx]), (g, zO 2 [.ref av, .ref an, .int (nI n), .int st]), (av, zI G 12 (fun j => nI (V j))), (fn, zI G 4 (fun j => nI ((fun _ => 0) j))), (fs, zI G 4 (fun j => nI ((fun _ => 0) j)))] sz) (fun u => True)) 0 0 (va_A [(f, zO 0 [.ref fn, .ref fs, .ref fe, .ref fp, .int (nI 0), .int (nI 1), .int (nI t), va_rf nx]), (g, zO 2 [.ref av, .ref an, .int (nI n), .int st]), (av, zI G 12 (fun j => nI (V j))), (fn, zI G 4 (fun j => nI ((fun _ => 0) j))), (fs, zI G 4 (fun j => nI ((fun _ => 0) j)))] sz) := by
  refine z_metWv (by decide) (Nat.le_of_ble_eq_true rfl) (fun p e s m args below meth c ls A Q Sf hnm w hl hret => ?_)
  obtain ⟨H, hH⟩ : ∃ H, H = s.heap := ⟨_, rfl⟩
  obtain ⟨locs, hlo⟩ : ∃ L : List Loc, L = [] := ⟨_, rfl⟩
  rw [← hH, ← hlo] at w
  rw [← hH, ← hlo]
  clear hH hlo
  have Sf : CallFix p m c cFa_spanNames 4 s args zT RFa := Sf
  have hx := Sf.1
  have hb := Sf.2.1
  have hown := Sf.2.2.2.1
  have hts := Sf.2.2.2.2
  have hl : lv_has ls 4 [(0, .ref f), (1, .int (nI S)), (2, .ref g)] := hl
  refine lv_iconst (v := (nI 0)) hx hb dFa_spanNames_0 (by decide) ?_
  refine lv_istore_n (lv' := [(3, .int (nI 0)), (0, .ref f), (1, .int (nI S)), (2, .ref g)]) hx hb dFa_spanNames_1 rfl hl (by decide) rfl (fun ls hl => ?_)
  have L2 : ∀ (fu2 : Nat) (i fd cl : Nat) (F1 F2 : Nat → Nat), (i ≤ n) → ((fd, F1, F2) = fiR V S i) → (cl = cellsF V S i) → (n - i) < fu2 → ∀ (H : Heap) (locs : List Loc), zw G A s [(f, zO 0 [.ref fn, .ref fs, .ref fe, .ref fp, .int (nI fd), .int (nI cl), .int (nI t), va_rf nx]), (g, zO 2 [.ref av, .ref an, .int (nI n), .int st]), (av, zI G 12 (fun j => nI (V j))), (fn, zI G 4 (fun j => nI (F1 j))), (fs, zI G 4 (fun j => nI (F2 j)))] H locs → ∀ (ls : Array Slot), lv_has ls 4 [(3, .int (nI i)), (0, .ref f), (1, .int (nI S)), (2, .ref g)] → W p l e rm_Factor_spanNames s m args below meth c H locs 0 0 Q (F0 m 2 ls []) := by
    intro fu2
    induction fu2 with
    | zero =>
      intro i fd cl F1 F2 hi hR hcl hm2
      exact absurd hm2 (Nat.not_lt_zero _)
    | succ fu2 ih2 =>
      intro i fd cl F1 F2 hi hR hcl hm2 H locs w ls hl
      have hfd : fd = popP S i := by rw [← fiR_1 (V := V), ← hR]
      have hple : popP S i ≤ popc S := popP_le (by omega)
      refine lv_iload_n hx hb dFa_spanNames_2 rfl (lv_at hl 0 rfl) ?_
      refine lv_aload_n hx hb dFa_spanNames_3 rfl (lv_at hl 3 rfl) ?_
      refine gf_Fa_37 Sf w.1 1 rfl rfl dFa_spanNames_4 ?_
      refine z_icmpge (tgt := 80) hx hb (by omega) (by omega) dFa_spanNames_7 (by decide) (fun c7 => ?_) (fun c7 => ?_)
      · skip
        have hen : fiR V S n = fiR V S i ∧ cellsF V S n = cellsF V S i := by
          first | exact fiR_end (show i ≤ n by omega) hn (by omega) | exact (show i = n by omega) ▸ ⟨rfl, rfl⟩
        exact hret _ _ _ _ () _ w (by rw [hen.1, hen.2, ← hR, ← hcl]) (trivial) dFa_spanNames_80 rfl
      · skip
        refine lv_aload_n hx hb dFa_spanNames_10 rfl (lv_at hl 1 rfl) ?_
        refine gf_Fa_41 Sf w.1 0 rfl rfl dFa_spanNames_11 ?_
        refine lv_iconst (v := (nI 4)) hx hb dFa_spanNames_14 (by decide) ?_
        refine z_icmpge (tgt := 80) hx hb (by omega) (by omega) dFa_spanNames_15 (by decide) (fun c15 => ?_) (fun c15 => ?_)
        · skip
          have hen : fiR V S n = fiR V S i ∧ cellsF V S n = cellsF V S i := by
            first | exact fiR_end (show i ≤ n by omega) hn (by omega) | exact (show i = n by omega) ▸ ⟨rfl, rfl⟩
          exact hret _ _ _ _ () _ w (by rw [hen.1, hen.2, ← hR, ← hcl]) (trivial) dFa_spanNames_80 rfl
        · skip
          refine lv_iload_n hx hb dFa_spanNames_18 rfl (lv_at hl 2 rfl) ?_
          refine lv_iconst (v := (nI 1)) hx hb dFa_spanNames_19 (by decide) ?_
          refine lv_iload_n hx hb dFa_spanNames_20 rfl (lv_at hl 0 rfl) ?_
          refine z_shl1 hx hb (by omega) dFa_spanNames_21 ?_
          refine z_andN hx hb dFa_spanNames_22 ?_
          refine z_ifeqbit (tgt := 74) hx hb (by omega) dFa_spanNames_23 (by decide) (fun c23 => ?_) (fun c23 => ?_)
          · skip
            refine z_iinc (d := 1) (lv' := [(3, .int (nI (i + 1))), (0, .ref f), (1, .int (nI S)), (2, .ref g)]) hx hb dFa_spanNames_74 hl (k := 0) rfl (by decide) (by decide) rfl (fun ls hl => ?_)
            refine lv_goto (tgt := 2) hx hb dFa_spanNames_77 (by decide) ?_
            refine ih2 (i + 1) _ _ F1 F2 ?_ ?_ ?_ ?_ _ _ w ls (lv_sub hl [0, 1, 2, 3] rfl)
            · omega
            · first | (rw [fiR_t c23, ← hR, hcl]; done) | (rw [fiR_f c23, ← hR])
            · first | (rw [cellsF_t c23, hcl]; done) | (rw [cellsF_f c23, hcl])
            · omega
          · skip
            refine lv_aload_n hx hb dFa_spanNames_26 rfl (lv_at hl 1 rfl) ?_
            refine gf_Fa_9 Sf w.1 0 rfl rfl dFa_spanNames_27 ?_
            refine lv_aload_n hx hb dFa_spanNames_30 rfl (lv_at hl 1 rfl) ?_
            refine gf_Fa_41 Sf w.1 0 rfl rfl dFa_spanNames_31 ?_
            refine lv_iload_n hx hb dFa_spanNames_34 rfl (lv_at hl 0 rfl) ?_
            refine z_iastN hx hb w 3 (k := fd) rfl (by omega) (by omega) (ws' := [(f, zO 0 [.ref fn, .ref fs, .ref fe, .ref fp, .int (nI fd), .int (nI cl), .int (nI t), va_rf nx]), (g, zO 2 [.ref av, .ref an, .int (nI n), .int st]), (av, zI G 12 (fun j => nI (V j))), (fn, zI G 4 (fun j => nI ((va_up F1 fd i) j))), (fs, zI G 4 (fun j => nI (F2 j)))]) rfl dFa_spanNames_35 (fun H locs w => ?_)
            refine lv_aload_n hx hb dFa_spanNames_36 rfl (lv_at hl 1 rfl) ?_
            refine gf_Fa_15 Sf w.1 0 rfl rfl dFa_spanNames_37 ?_
            refine lv_aload_n hx hb dFa_spanNames_40 rfl (lv_at hl 1 rfl) ?_
            refine gf_Fa_41 Sf w.1 0 rfl rfl dFa_spanNames_41 ?_
            refine lv_aload_n hx hb dFa_spanNames_44 rfl (lv_at hl 1 rfl) ?_
            refine gf_Fa_24 Sf w.1 0 rfl rfl dFa_spanNames_45 ?_
            refine z_iastN hx hb w 4 (k := fd) rfl (by omega) (by omega) (ws' := [(f, zO 0 [.ref fn, .ref fs, .ref fe, .ref fp, .int (nI fd), .int (nI cl), .int (nI t), va_rf nx]), (g, zO 2 [.ref av, .ref an, .int (nI n), .int st]), (av, zI G 12 (fun j => nI (V j))), (fn, zI G 4 (fun j => nI ((va_up F1 fd i) j))), (fs, zI G 4 (fun j => nI ((va_up F2 fd cl) j)))]) rfl dFa_spanNames_48 (fun H locs w => ?_)
            refine lv_aload_n hx hb dFa_spanNames_49 rfl (lv_at hl 1 rfl) ?_
            refine lv_dup hx hb dFa_spanNames_50 rfl ?_
            refine gf_Fa_24 Sf w.1 0 rfl rfl dFa_spanNames_51 ?_
            refine lv_aload_n hx hb dFa_spanNames_54 rfl (lv_at hl 3 rfl) ?_
            refine gf_Fa_44 Sf w.1 1 rfl rfl dFa_spanNames_55 ?_
            refine lv_iload_n hx hb dFa_spanNames_58 rfl (lv_at hl 0 rfl) ?_
            refine z_iald hx hb w.1 2 (k := i) rfl (by omega) (by omega) dFa_spanNames_59 ?_
            refine z_mulN hx hb dFa_spanNames_60 ?_
            refine pf_Fa_24 Sf w 0 rfl rfl rfl (Nat.le_of_ble_eq_true rfl) (ws' := [(f, zO 0 [.ref fn, .ref fs, .ref fe, .ref fp, .int (nI fd), .int (nI (cl * (V i))), .int (nI t), va_rf nx]), (g, zO 2 [.ref av, .ref an, .int (nI n), .int st]), (av, zI G 12 (fun j => nI (V j))), (fn, zI G 4 (fun j => nI ((va_up F1 fd i) j))), (fs, zI G 4 (fun j => nI ((va_up F2 fd cl) j)))]) rfl dFa_spanNames_61 (fun H locs w => ?_)
            refine lv_aload_n hx hb dFa_spanNames_64 rfl (lv_at hl 1 rfl) ?_
            refine lv_dup hx hb dFa_spanNames_65 rfl ?_
            refine gf_Fa_41 Sf w.1 0 rfl rfl dFa_spanNames_66 ?_
            refine lv_iconst (v := (nI 1)) hx hb dFa_spanNames_69 (by decide) ?_
            refine z_addN hx hb dFa_spanNames_70 ?_
            refine pf_Fa_41 Sf w 0 rfl rfl rfl (Nat.le_of_ble_eq_true rfl) (ws' := [(f, zO 0 [.ref fn, .ref fs, .ref fe, .ref fp, .int (nI (fd + 1)), .int (nI (cl * (V i))), .int (nI t), va_rf nx]), (g, zO 2 [.ref av, .ref an, .int (nI n), .int st]), (av, zI G 12 (fun j => nI (V j))), (fn, zI G 4 (fun j => nI ((va_up F1 fd i) j))), (fs, zI G 4 (fun j => nI ((va_up F2 fd cl) j)))]) rfl dFa_spanNames_71 (fun H locs w => ?_)
            refine z_iinc (d := 1) (lv' := [(3, .int (nI (i + 1))), (0, .ref f), (1, .int (nI S)), (2, .ref g)]) hx hb dFa_spanNames_74 hl (k := 0) rfl (by decide) (by decide) rfl (fun ls hl => ?_)
            refine lv_goto (tgt := 2) hx hb dFa_spanNames_77 (by decide) ?_
            refine ih2 (i + 1) (fd + 1) (cl * (V i)) (va_up F1 fd i) (va_up F2 fd cl) ?_ ?_ ?_ ?_ _ _ w ls (lv_sub hl [0, 1, 2, 3] rfl)
            · omega
            · first | (rw [fiR_t c23, ← hR, hcl]; done) | (rw [fiR_f c23, ← hR])
            · first | (rw [cellsF_t c23, hcl]; done) | (rw [cellsF_f c23, hcl])
            · omega
  refine L2 ((n - 0) + 1) 0 0 1 (fun _ => 0) (fun _ => 0) ?_ ?_ ?_ ?_ _ _ w ls (lv_sub hl [0, 1, 2, 3] rfl)
  · omega
  · rfl
  · rfl
  · exact Nat.lt_succ_self _
