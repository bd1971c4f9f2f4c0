def rm_Factor_power : Room := { frames := 0, cells := 0, slots := 0, locals := 0 }
set_option maxHeartbeats 4000000 in
set_option maxRecDepth 100000 in
theorem c_Factor_power (l : Launch) (G : zG) (f fn fs fe fp : Nat) (nx : Option Nat) (t k cs : Nat) (v : Nat) (ht : t ≤ 3) : Met l yFa_power (.code yFa_power cFa_power 4 (some .int) :: zT) rm_Factor_power (zPr G [.ref f, .int (nI v)] [(f, zO 0 [.ref fn, .ref fs, .ref fe, .ref fp, .int (nI k), .int (nI cs), .int (nI t), va_rf nx])]) (k2_QcV (.int (nI (v ^ t)))) 0 0 (fun _ => False) := by
  refine z_metRi (by decide) (Nat.le_of_ble_eq_true rfl) (fun p e s m args below meth c ls Q Sf r hl hret => ?_)
  have Sf : CallFix p m c cFa_power 4 s args zT RFa := Sf
  have hx := Sf.1
  have hb := Sf.2.1
  have hown := Sf.2.2.2.1
  have hts := Sf.2.2.2.2
  have hl : lv_has ls 4 [(0, .ref f), (1, .int (nI v))] := hl
  refine lv_iconst (v := (nI 1)) hx hb dFa_power_0 (by decide) ?_
  refine lv_istore_n (lv' := [(2, .int (nI 1)), (0, .ref f), (1, .int (nI v))]) hx hb dFa_power_1 rfl hl (by decide) rfl (fun ls hl => ?_)
  refine lv_iconst (v := (nI 0)) hx hb dFa_power_2 (by decide) ?_
  refine lv_istore_n (lv' := [(3, .int (nI 0)), (2, .int (nI 1)), (0, .ref f), (1, .int (nI v))]) hx hb dFa_power_3 rfl hl (by decide) rfl (fun ls hl => ?_)
  have L4 : ∀ (fu4 : Nat) (i a : Nat), (i ≤ t) → (a = v ^ i) → (t - i) < fu4 → ∀ (ls : Array Slot), lv_has ls 4 [(3, .int (nI i)), (2, .int (nI a)), (0, .ref f), (1, .int (nI v))] → W p l e rm_Factor_power s m args below meth c s.heap [] 0 0 Q (F0 m 4 ls []) := by
    intro fu4
    induction fu4 with
    | zero =>
      intro i a hi ha hm4
      exact absurd hm4 (Nat.not_lt_zero _)
    | succ fu4 ih4 =>
      intro i a hi ha hm4 ls hl
      refine lv_iload_n hx hb dFa_power_4 rfl (lv_at hl 0 rfl) ?_
      refine lv_aload_n hx hb dFa_power_5 rfl (lv_at hl 2 rfl) ?_
      refine gf_Fa_28 Sf r 0 rfl rfl dFa_power_6 ?_
      refine z_icmpge (tgt := 22) hx hb (by omega) (by omega) dFa_power_9 (by decide) (fun c9 => ?_) (fun c9 => ?_)
      · skip
        refine lv_iload_n hx hb dFa_power_22 rfl (lv_at hl 1 rfl) ?_
        exact hret _ _ _ dFa_power_23 (by rw [ha, show i = t by omega])
      · skip
        refine lv_iload_n hx hb dFa_power_12 rfl (lv_at hl 1 rfl) ?_
        refine lv_iload_n hx hb dFa_power_13 rfl (lv_at hl 3 rfl) ?_
        refine z_mulN hx hb dFa_power_14 ?_
        refine lv_istore_n (lv' := [(2, .int (nI (a * v))), (3, .int (nI i)), (0, .ref f), (1, .int (nI v))]) hx hb dFa_power_15 rfl hl (by decide) rfl (fun ls hl => ?_)
        refine z_iinc (d := 1) (lv' := [(3, .int (nI (i + 1))), (2, .int (nI (a * v))), (0, .ref f), (1, .int (nI v))]) hx hb dFa_power_16 hl (k := 1) rfl (by decide) (by decide) rfl (fun ls hl => ?_)
        refine lv_goto (tgt := 4) hx hb dFa_power_19 (by decide) ?_
        refine ih4 (i + 1) (a * v) ?_ ?_ ?_ ls (lv_sub hl [0, 1, 2, 3] rfl)
        · omega
        · rw [ha, Nat.pow_succ]
        · omega
  refine L4 ((t - 0) + 1) 0 1 ?_ ?_ ?_ ls (lv_sub hl [0, 1, 2, 3] rfl)
  · omega
  · rfl
  · exact Nat.lt_succ_self _

def rm_Factor_entryAt : Room := { frames := 0, cells := 0, slots := 0, locals := 0 }
set_option maxHeartbeats 4000000 in
set_option maxRecDepth 100000 in
theorem c_Factor_entryAt (l : Launch) (G : zG) (f fn fs fe fp : Nat) (nx : Option Nat) (t k cs : Nat) (nm sp C : Nat → Nat) (ch : Nat) (hk : k ≤ 4) (hnm0 : ∀ i, i < k → nm i < 12) : Met l yFa_entryAt (.code yFa_entryAt cFa_entryAt 4 (some .int) :: zT) rm_Factor_entryAt (zPr G [.ref f, .ref ch] [(f, zO 0 [.ref fn, .ref fs, .ref fe, .ref fp, .int (nI k), .int (nI cs), .int (nI t), va_rf nx]), (fn, zI G 4 (fun j => nI (nm j))), (fs, zI G 4 (fun j => nI (sp j))), (ch, zI G 12 (fun j => nI (C j)))]) (k2_QcV (.int (nI (entF nm sp C k)))) 0 0 (fun _ => False) := by
  refine z_metRi (by decide) (Nat.le_of_ble_eq_true rfl) (fun p e s m args below meth c ls Q Sf r hl hret => ?_)
  have Sf : CallFix p m c cFa_entryAt 4 s args zT RFa := Sf
  have hx := Sf.1
  have hb := Sf.2.1
  have hown := Sf.2.2.2.1
  have hts := Sf.2.2.2.2
  have hl : lv_has ls 4 [(0, .ref f), (1, .ref ch)] := hl
  refine lv_iconst (v := (nI 0)) hx hb dFa_entryAt_0 (by decide) ?_
  refine lv_istore_n (lv' := [(2, .int (nI 0)), (0, .ref f), (1, .ref ch)]) hx hb dFa_entryAt_1 rfl hl (by decide) rfl (fun ls hl => ?_)
  refine lv_iconst (v := (nI 0)) hx hb dFa_entryAt_2 (by decide) ?_
  refine lv_istore_n (lv' := [(3, .int (nI 0)), (2, .int (nI 0)), (0, .ref f), (1, .ref ch)]) hx hb dFa_entryAt_3 rfl hl (by decide) rfl (fun ls hl => ?_)
  have L4 : ∀ (fu4 : Nat) (i a : Nat), (i ≤ k) → (a = entF nm sp C i) → (k - i) < fu4 → ∀ (ls : Array Slot), lv_has ls 4 [(3, .int (nI i)), (2, .int (nI a)), (0, .ref f), (1, .ref ch)] → W p l e rm_Factor_entryAt s m args below meth c s.heap [] 0 0 Q (F0 m 4 ls []) := by
    intro fu4
    induction fu4 with
    | zero =>
      intro i a hi ha hm4
      exact absurd hm4 (Nat.not_lt_zero _)
    | succ fu4 ih4 =>
      intro i a hi ha hm4 ls hl
      refine lv_iload_n hx hb dFa_entryAt_4 rfl (lv_at hl 0 rfl) ?_
      refine lv_aload_n hx hb dFa_entryAt_5 rfl (lv_at hl 2 rfl) ?_
      refine gf_Fa_41 Sf r 0 rfl rfl dFa_entryAt_6 ?_
      refine z_icmpge (tgt := 36) hx hb (by omega) (by omega) dFa_entryAt_9 (by decide) (fun c9 => ?_) (fun c9 => ?_)
      · skip
        refine lv_iload_n hx hb dFa_entryAt_36 rfl (lv_at hl 1 rfl) ?_
        exact hret _ _ _ dFa_entryAt_37 (by rw [ha, show i = k by omega])
      · skip
        refine lv_iload_n hx hb dFa_entryAt_12 rfl (lv_at hl 1 rfl) ?_
        refine lv_aload_n hx hb dFa_entryAt_13 rfl (lv_at hl 3 rfl) ?_
        refine lv_aload_n hx hb dFa_entryAt_14 rfl (lv_at hl 2 rfl) ?_
        refine gf_Fa_9 Sf r 0 rfl rfl dFa_entryAt_15 ?_
        refine lv_iload_n hx hb dFa_entryAt_18 rfl (lv_at hl 0 rfl) ?_
        refine z_iald hx hb r 1 (k := i) rfl (by omega) (by omega) dFa_entryAt_19 ?_
        refine z_iald hx hb r 3 (k := (nm i)) rfl (hnm0 i (by omega)) (by omega) dFa_entryAt_20 ?_
        refine lv_aload_n hx hb dFa_entryAt_21 rfl (lv_at hl 2 rfl) ?_
        refine gf_Fa_15 Sf r 0 rfl rfl dFa_entryAt_22 ?_
        refine lv_iload_n hx hb dFa_entryAt_25 rfl (lv_at hl 0 rfl) ?_
        refine z_iald hx hb r 2 (k := i) rfl (by omega) (by omega) dFa_entryAt_26 ?_
        refine z_mulN hx hb dFa_entryAt_27 ?_
        refine z_addN hx hb dFa_entryAt_28 ?_
        refine lv_istore_n (lv' := [(2, .int (nI (a + ((C (nm i)) * (sp i))))), (3, .int (nI i)), (0, .ref f), (1, .ref ch)]) hx hb dFa_entryAt_29 rfl hl (by decide) rfl (fun ls hl => ?_)
        refine z_iinc (d := 1) (lv' := [(3, .int (nI (i + 1))), (2, .int (nI (a + ((C (nm i)) * (sp i))))), (0, .ref f), (1, .ref ch)]) hx hb dFa_entryAt_30 hl (k := 1) rfl (by decide) (by decide) rfl (fun ls hl => ?_)
        refine lv_goto (tgt := 4) hx hb dFa_entryAt_33 (by decide) ?_
        refine ih4 (i + 1) (a + ((C (nm i)) * (sp i))) ?_ ?_ ?_ ls (lv_sub hl [0, 1, 2, 3] rfl)
        · omega
        · rw [ha]; rfl
        · omega
  refine L4 ((k - 0) + 1) 0 0 ?_ ?_ ?_ ls (lv_sub hl [0, 1, 2, 3] rfl)
  · omega
  · rfl
  · exact Nat.lt_succ_self _

def rm_Factor_powerAt : Room := { frames := 1, cells := 0, slots := 0, locals := 40 }
set_option maxHeartbeats 4000000 in
set_option maxRecDepth 100000 in
theorem c_Factor_powerAt (l : Launch) (G : zG) (f fn fs fe fp : Nat) (nx : Option Nat) (t k cs : Nat) (nm sp C P : Nat → Nat) (ch : Nat) (hk : k ≤ 4) (hnm0 : ∀ i, i < k → nm i < 12) (hcs : cs ≤ 256) (he : entF nm sp C k < cs) : Met l yFa_powerAt (.code yFa_powerAt cFa_powerAt 3 (some .int) :: zT) rm_Factor_powerAt (zPr G [.ref f, .ref ch] [(f, zO 0 [.ref fn, .ref fs, .ref fe, .ref fp, .int (nI k), .int (nI cs), .int (nI t), va_rf nx]), (fn, zI G 4 (fun j => nI (nm j))), (fs, zI G 4 (fun j => nI (sp j))), (ch, zI G 12 (fun j => nI (C j))), (fp, zI G 256 (fun j => nI (P j)))]) (k2_QcV (.int (nI (P (entF nm sp C k))))) 0 0 (fun _ => False) := by
  refine z_metRi (by decide) (Nat.le_of_ble_eq_true rfl) (fun p e s m args below meth c ls Q Sf r hl hret => ?_)
  have Sf : CallFix p m c cFa_powerAt 3 s args zT RFa := Sf
  have hx := Sf.1
  have hb := Sf.2.1
  have hown := Sf.2.2.2.1
  have hts := Sf.2.2.2.2
  have hl : lv_has ls 3 [(0, .ref f), (1, .ref ch)] := hl
  refine lv_aload_n hx hb dFa_powerAt_0 rfl (lv_at hl 0 rfl) ?_
  refine lv_aload_n hx hb dFa_powerAt_1 rfl (lv_at hl 1 rfl) ?_
  refine z_rV (As := [.ref ch]) (rest := []) Sf (c_Factor_entryAt l G f fn fs fe fp nx t k cs nm sp C ch (by first | assumption | omega) (by first | assumption | omega)) mv_Fa_51 ⟨rfl, rfl⟩ ⟨Nat.le_of_ble_eq_true rfl, Nat.le_of_ble_eq_true rfl⟩ r [0, 1, 2, 3] rfl 0 rfl rfl rfl rfl hl.1 rfl (Nat.le_of_ble_eq_true rfl) dFa_powerAt_2 ⟨Nat.le_of_ble_eq_true rfl, Nat.le_of_ble_eq_true rfl⟩ ?_
  refine lv_istore_n (lv' := [(2, .int (nI (entF nm sp C k))), (0, .ref f), (1, .ref ch)]) hx hb dFa_powerAt_5 rfl hl (by decide) rfl (fun ls hl => ?_)
  refine lv_iload_n hx hb dFa_powerAt_6 rfl (lv_at hl 0 rfl) ?_
  refine lv_aload_n hx hb dFa_powerAt_7 rfl (lv_at hl 1 rfl) ?_
  refine gf_Fa_24 Sf r 0 rfl rfl dFa_powerAt_8 ?_
  refine z_icmpge (tgt := 23) hx hb (by omega) (by omega) dFa_powerAt_11 (by decide) (fun c11 => ?_) (fun c11 => ?_)
  · skip
    exact absurd c11 (by omega)
  · skip
    refine lv_aload_n hx hb dFa_powerAt_14 rfl (lv_at hl 1 rfl) ?_
    refine gf_Fa_21 Sf r 0 rfl rfl dFa_powerAt_15 ?_
    refine lv_iload_n hx hb dFa_powerAt_18 rfl (lv_at hl 0 rfl) ?_
    refine z_iald hx hb r 4 (k := (entF nm sp C k)) rfl (by omega) (by omega) dFa_powerAt_19 ?_
    refine lv_goto (tgt := 24) hx hb dFa_powerAt_20 (by decide) ?_
    exact hret _ _ _ dFa_powerAt_24 (rfl)
