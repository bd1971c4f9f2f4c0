def rm_Mo_in : Room := { frames := 0, cells := 0, slots := 0, locals := 0 }
set_option maxHeartbeats 4000000 in
set_option maxRecDepth 100000 in
theorem c_Mo_in (l : Launch) (G : zG) (v lo hi : Int64)  : Met l yMo_in (.code yMo_in cMo_in 6 (some .boolean) :: zT) rm_Mo_in (zPr G [.long v, .long lo, .long hi] []) (k2_QcV (.int (bI (inZ v lo hi)))) 0 0 (fun _ => False) := by
  refine z_metRz (by decide) (Nat.le_of_ble_eq_true rfl) (fun p e s m args below meth c ls Q Sf r hl hret => ?_)
  have Sf : CallFix p m c cMo_in 6 s args zT RMo := Sf
  have hx := Sf.1
  have hb := Sf.2.1
  have hown := Sf.2.2.2.1
  have hts := Sf.2.2.2.2
  have hl : lv_has ls 6 [(0, .long v), (2, .long lo), (4, .long hi)] := hl
  refine lv_lload_n hx hb dMo_in_0 rfl (lv_at hl 0 rfl) ?_
  refine lv_lload_n hx hb dMo_in_1 rfl (lv_at hl 1 rfl) ?_
  refine W.lcmp hx hb dMo_in_2 ?_
  refine z_lclt (tgt := 17) hx hb dMo_in_3 (by decide) (fun c3 => ?_) (fun c3 => ?_)
  · skip
    refine lv_iconst (v := (nI 0)) hx hb dMo_in_17 (by decide) ?_
    exact hret _ _ _ dMo_in_18 (bI_f (fun h => by first | exact h.1 c3 | exact h.2 c10))
  · skip
    refine lv_lload_n hx hb dMo_in_6 rfl (lv_at hl 0 rfl) ?_
    refine lv_lload hx hb dMo_in_7 (lv_at hl 2 rfl) ?_
    refine W.lcmp hx hb dMo_in_9 ?_
    refine z_lcgt (tgt := 17) hx hb dMo_in_10 (by decide) (fun c10 => ?_) (fun c10 => ?_)
    · skip
      refine lv_iconst (v := (nI 0)) hx hb dMo_in_17 (by decide) ?_
      exact hret _ _ _ dMo_in_18 (bI_f (fun h => by first | exact h.1 c3 | exact h.2 c10))
    · skip
      refine lv_iconst (v := (nI 1)) hx hb dMo_in_13 (by decide) ?_
      refine lv_goto (tgt := 18) hx hb dMo_in_14 (by decide) ?_
      exact hret _ _ _ dMo_in_18 (bI_t ⟨c3, c10⟩)

def rm_Mo_isName : Room := { frames := 1, cells := 0, slots := 0, locals := 40 }
set_option maxHeartbeats 4000000 in
set_option maxRecDepth 100000 in
theorem c_Mo_isName (l : Launch) (G : zG) (m0 av ab apl ase aco aen aor aba ali ale ach ast atw ats : Nat) (n stt nf mem kd sl fi tp th : Nat) (x : Int32) (hn : n ≤ 12) : Met l yMo_isName (.code yMo_isName cMo_isName 2 (some .boolean) :: zT) rm_Mo_isName (zPr G [.ref m0, .int x] [(m0, zO 7 [.int (nI n), .ref av, .ref ab, .ref apl, .int (nI stt), .int (nI nf), .ref ase, .ref aco, .ref aen, .int (nI mem), .int (nI kd), .int (nI sl), .ref aor, .ref aba, .int (nI fi), .ref ali, .ref ale, .ref ach, .ref ast, .ref atw, .ref ats, .int (nI tp), .int (nI th)])]) (k2_QcV (.int (bI (knP x n)))) 0 0 (fun _ => False) := by
  refine z_metRz (by decide) (Nat.le_of_ble_eq_true rfl) (fun p e s m args below meth c ls Q Sf r hl hret => ?_)
  have Sf : CallFix p m c cMo_isName 2 s args zT RMo := Sf
  have hx := Sf.1
  have hb := Sf.2.1
  have hown := Sf.2.2.2.1
  have hts := Sf.2.2.2.2
  have hl : lv_has ls 2 [(0, .ref m0), (1, .int x)] := hl
  refine lv_iload_n hx hb dMo_isName_0 rfl (lv_at hl 1 rfl) ?_
  refine lv_i2l hx hb dMo_isName_1 rfl ?_
  refine lv_lconst (v := lN 0) hx hb dMo_isName_2 (by decide) ?_
  refine lv_aload_n hx hb dMo_isName_3 rfl (lv_at hl 0 rfl) ?_
  refine gf_Mo_68 Sf r 0 rfl rfl dMo_isName_4 ?_
  refine lv_iconst (v := (nI 1)) hx hb dMo_isName_7 (by decide) ?_
  refine z_subM hx hb dMo_isName_8 ?_
  refine lv_i2l hx hb dMo_isName_9 rfl ?_
  refine z_rS (As := [.long x.toInt64, .long (lN 0), .long ((mI n).toInt64)]) (rest := []) Sf (c_Mo_in l G x.toInt64 (lN 0) ((mI n).toInt64) ) mv_Mo_71 ⟨rfl, rfl⟩ ⟨Nat.le_of_ble_eq_true rfl, Nat.le_of_ble_eq_true rfl⟩ r [] rfl rfl hl.1 rfl (Nat.le_of_ble_eq_true rfl) dMo_isName_10 ⟨Nat.le_of_ble_eq_true rfl, Nat.le_of_ble_eq_true rfl⟩ ?_
  exact hret _ _ _ dMo_isName_13 (congrArg bI (propext (in_kn (by omega))))

def rm_Mo_isFactor : Room := { frames := 1, cells := 0, slots := 0, locals := 40 }
set_option maxHeartbeats 4000000 in
set_option maxRecDepth 100000 in
theorem c_Mo_isFactor (l : Launch) (G : zG) (m0 av ab apl ase aco aen aor aba ali ale ach ast atw ats : Nat) (n stt nf mem kd sl fi tp th : Nat) (x : Int32) (hnf : nf ≤ 16) : Met l yMo_isFactor (.code yMo_isFactor cMo_isFactor 2 (some .boolean) :: zT) rm_Mo_isFactor (zPr G [.ref m0, .int x] [(m0, zO 7 [.int (nI n), .ref av, .ref ab, .ref apl, .int (nI stt), .int (nI nf), .ref ase, .ref aco, .ref aen, .int (nI mem), .int (nI kd), .int (nI sl), .ref aor, .ref aba, .int (nI fi), .ref ali, .ref ale, .ref ach, .ref ast, .ref atw, .ref ats, .int (nI tp), .int (nI th)])]) (k2_QcV (.int (bI (knP x nf)))) 0 0 (fun _ => False) := by
  refine z_metRz (by decide) (Nat.le_of_ble_eq_true rfl) (fun p e s m args below meth c ls Q Sf r hl hret => ?_)
  have Sf : CallFix p m c cMo_isFactor 2 s args zT RMo := Sf
  have hx := Sf.1
  have hb := Sf.2.1
  have hown := Sf.2.2.2.1
  have hts := Sf.2.2.2.2
  have hl : lv_has ls 2 [(0, .ref m0), (1, .int x)] := hl
  refine lv_iload_n hx hb dMo_isFactor_0 rfl (lv_at hl 1 rfl) ?_
  refine lv_i2l hx hb dMo_isFactor_1 rfl ?_
  refine lv_lconst (v := lN 0) hx hb dMo_isFactor_2 (by decide) ?_
  refine lv_aload_n hx hb dMo_isFactor_3 rfl (lv_at hl 0 rfl) ?_
  refine gf_Mo_79 Sf r 0 rfl rfl dMo_isFactor_4 ?_
  refine lv_iconst (v := (nI 1)) hx hb dMo_isFactor_7 (by decide) ?_
  refine z_subM hx hb dMo_isFactor_8 ?_
  refine lv_i2l hx hb dMo_isFactor_9 rfl ?_
  refine z_rS (As := [.long x.toInt64, .long (lN 0), .long ((mI nf).toInt64)]) (rest := []) Sf (c_Mo_in l G x.toInt64 (lN 0) ((mI nf).toInt64) ) mv_Mo_71 ⟨rfl, rfl⟩ ⟨Nat.le_of_ble_eq_true rfl, Nat.le_of_ble_eq_true rfl⟩ r [] rfl rfl hl.1 rfl (Nat.le_of_ble_eq_true rfl) dMo_isFactor_10 ⟨Nat.le_of_ble_eq_true rfl, Nat.le_of_ble_eq_true rfl⟩ ?_
  exact hret _ _ _ dMo_isFactor_13 (congrArg bI (propext (in_kn (by omega))))

def rm_Mo_isSet : Room := { frames := 0, cells := 0, slots := 0, locals := 0 }
set_option maxHeartbeats 4000000 in
set_option maxRecDepth 100000 in
theorem c_Mo_isSet (l : Launch) (G : zG) (m0 av ab apl ase aco aen aor aba ali ale ach ast atw ats : Nat) (n stt nf mem kd sl fi tp th : Nat) (x : Int32) (hn : n ≤ 12) : Met l yMo_isSet (.code yMo_isSet cMo_isSet 2 (some .boolean) :: zT) rm_Mo_isSet (zPr G [.ref m0, .int x] [(m0, zO 7 [.int (nI n), .ref av, .ref ab, .ref apl, .int (nI stt), .int (nI nf), .ref ase, .ref aco, .ref aen, .int (nI mem), .int (nI kd), .int (nI sl), .ref aor, .ref aba, .int (nI fi), .ref ali, .ref ale, .ref ach, .ref ast, .ref atw, .ref ats, .int (nI tp), .int (nI th)])]) (k2_QcV (.int (bI (stP x n)))) 0 0 (fun _ => False) := by
  refine z_metRz (by decide) (Nat.le_of_ble_eq_true rfl) (fun p e s m args below meth c ls Q Sf r hl hret => ?_)
  have Sf : CallFix p m c cMo_isSet 2 s args zT RMo := Sf
  have hx := Sf.1
  have hb := Sf.2.1
  have hown := Sf.2.2.2.1
  have hts := Sf.2.2.2.2
  have hl : lv_has ls 2 [(0, .ref m0), (1, .int x)] := hl
  refine lv_iload_n hx hb dMo_isSet_0 rfl (lv_at hl 1 rfl) ?_
  refine lv_if_lt (tgt := 18) hx hb dMo_isSet_1 (by decide) (fun c1 => ?_) (fun c1 => ?_)
  · skip
    refine lv_iconst (v := (nI 0)) hx hb dMo_isSet_18 (by decide) ?_
    exact hret _ _ _ dMo_isSet_19 (bI_f (fun h => by first | exact h.1 c1 | exact h.2 c11))
  · skip
    refine lv_iload_n hx hb dMo_isSet_4 rfl (lv_at hl 1 rfl) ?_
    refine lv_iconst (v := (nI 1)) hx hb dMo_isSet_5 (by decide) ?_
    refine lv_aload_n hx hb dMo_isSet_6 rfl (lv_at hl 0 rfl) ?_
    refine gf_Mo_68 Sf r 0 rfl rfl dMo_isSet_7 ?_
    refine z_shl1 hx hb (by omega) dMo_isSet_10 ?_
    refine lv_icmp_ge (tgt := 18) hx hb dMo_isSet_11 (by decide) (fun c11 => ?_) (fun c11 => ?_)
    · skip
      refine lv_iconst (v := (nI 0)) hx hb dMo_isSet_18 (by decide) ?_
      exact hret _ _ _ dMo_isSet_19 (bI_f (fun h => by first | exact h.1 c1 | exact h.2 c11))
    · skip
      refine lv_iconst (v := (nI 1)) hx hb dMo_isSet_14 (by decide) ?_
      refine lv_goto (tgt := 19) hx hb dMo_isSet_15 (by decide) ?_
      exact hret _ _ _ dMo_isSet_19 (bI_t ⟨c1, c11⟩)

def rm_Mo_many : Room := { frames := 0, cells := 0, slots := 0, locals := 0 }
set_option maxHeartbeats 4000000 in
set_option maxRecDepth 100000 in
theorem c_Mo_many (l : Launch) (G : zG) (S : Nat) (hS : S < 4096) : Met l yMo_many (.code yMo_many cMo_many 3 (some .int) :: zT) rm_Mo_many (zPr G [.int (nI S)] []) (k2_QcV (.int (nI (popc S)))) 0 0 (fun _ => False) := by
  refine z_metRi (by decide) (Nat.le_of_ble_eq_true rfl) (fun p e s m args below meth c ls Q Sf r hl hret => ?_)
  have Sf : CallFix p m c cMo_many 3 s args zT RMo := Sf
  have hx := Sf.1
  have hb := Sf.2.1
  have hown := Sf.2.2.2.1
  have hts := Sf.2.2.2.2
  have hl : lv_has ls 3 [(0, .int (nI S))] := hl
  refine lv_iconst (v := (nI 0)) hx hb dMo_many_0 (by decide) ?_
  refine lv_istore_n (lv' := [(1, .int (nI 0)), (0, .int (nI S))]) hx hb dMo_many_1 rfl hl (by decide) rfl (fun ls hl => ?_)
  refine lv_iconst (v := (nI 0)) hx hb dMo_many_2 (by decide) ?_
  refine lv_istore_n (lv' := [(2, .int (nI 0)), (1, .int (nI 0)), (0, .int (nI S))]) hx hb dMo_many_3 rfl hl (by decide) rfl (fun ls hl => ?_)
  have L4 : ∀ (fu4 : Nat) (i a : Nat), (i ≤ 12) → (a = popP S i) → (12 - i) < fu4 → ∀ (ls : Array Slot), lv_has ls 3 [(2, .int (nI i)), (1, .int (nI a)), (0, .int (nI S))] → W p l e rm_Mo_many s m args below meth c s.heap [] 0 0 Q (F0 m 4 ls []) := by
    intro fu4
    induction fu4 with
    | zero =>
      intro i a hi ha hm4
      exact absurd hm4 (Nat.not_lt_zero _)
    | succ fu4 ih4 =>
      intro i a hi ha hm4 ls hl
      refine lv_iload_n hx hb dMo_many_4 rfl (lv_at hl 0 rfl) ?_
      refine lv_bipush (v := nI 12) hx hb dMo_many_5 (by decide) ?_
      refine z_icmpge (tgt := 24) hx hb (by omega) (by omega) dMo_many_7 (by decide) (fun c7 => ?_) (fun c7 => ?_)
      · skip
        refine lv_iload_n hx hb dMo_many_24 rfl (lv_at hl 1 rfl) ?_
        exact hret _ _ _ dMo_many_25 (by rw [ha, show i = 12 by omega, popP_12])
      · skip
        refine lv_iload_n hx hb dMo_many_10 rfl (lv_at hl 1 rfl) ?_
        refine lv_iload_n hx hb dMo_many_11 rfl (lv_at hl 2 rfl) ?_
        refine lv_iload_n hx hb dMo_many_12 rfl (lv_at hl 0 rfl) ?_
        refine z_shrN hx hb (by omega) (by omega) dMo_many_13 ?_
        refine lv_iconst (v := (nI 1)) hx hb dMo_many_14 (by decide) ?_
        refine z_and1 hx hb dMo_many_15 ?_
        refine z_addN hx hb dMo_many_16 ?_
        refine lv_istore_n (lv' := [(1, .int (nI (a + (bitN S i)))), (2, .int (nI i)), (0, .int (nI S))]) hx hb dMo_many_17 rfl hl (by decide) rfl (fun ls hl => ?_)
        refine z_iinc (d := 1) (lv' := [(2, .int (nI (i + 1))), (1, .int (nI (a + (bitN S i)))), (0, .int (nI S))]) hx hb dMo_many_18 hl (k := 1) rfl (by decide) (by decide) rfl (fun ls hl => ?_)
        refine lv_goto (tgt := 4) hx hb dMo_many_21 (by decide) ?_
        refine ih4 (i + 1) (a + (bitN S i)) ?_ ?_ ?_ ls (lv_sub hl [0, 1, 2] rfl)
        · omega
        · rw [ha]; rfl
        · omega
  refine L4 ((12 - 0) + 1) 0 0 ?_ ?_ ?_ ls (lv_sub hl [0, 1, 2] rfl)
  · omega
  · rfl
  · exact Nat.lt_succ_self _

def rm_Mo_cells : Room := { frames := 0, cells := 0, slots := 0, locals := 0 }
set_option maxHeartbeats 4000000 in
set_option maxRecDepth 100000 in
theorem c_Mo_cells (l : Launch) (G : zG) (m0 av ab apl ase aco aen aor aba ali ale ach ast atw ats : Nat) (n stt nf mem kd sl fi tp th : Nat) (V : Nat → Nat) (S : Nat) (hn : n ≤ 12) (hS : S < 4096) : Met l yMo_cells (.code yMo_cells cMo_cells 4 (some .int) :: zT) rm_Mo_cells (zPr G [.ref m0, .int (nI S)] [(m0, zO 7 [.int (nI n), .ref av, .ref ab, .ref apl, .int (nI stt), .int (nI nf), .ref ase, .ref aco, .ref aen, .int (nI mem), .int (nI kd), .int (nI sl), .ref aor, .ref aba, .int (nI fi), .ref ali, .ref ale, .ref ach, .ref ast, .ref atw, .ref ats, .int (nI tp), .int (nI th)]), (av, zI G 12 (fun j => nI (V j)))]) (k2_QcV (.int (nI (cellsF V S n)))) 0 0 (fun _ => False) := by
  refine z_metRi (by decide) (Nat.le_of_ble_eq_true rfl) (fun p e s m args below meth c ls Q Sf r hl hret => ?_)
  have Sf : CallFix p m c cMo_cells 4 s args zT RMo := Sf
  have hx := Sf.1
  have hb := Sf.2.1
  have hown := Sf.2.2.2.1
  have hts := Sf.2.2.2.2
  have hl : lv_has ls 4 [(0, .ref m0), (1, .int (nI S))] := hl
  refine lv_iconst (v := (nI 1)) hx hb dMo_cells_0 (by decide) ?_
  refine lv_istore_n (lv' := [(2, .int (nI 1)), (0, .ref m0), (1, .int (nI S))]) hx hb dMo_cells_1 rfl hl (by decide) rfl (fun ls hl => ?_)
  refine lv_iconst (v := (nI 0)) hx hb dMo_cells_2 (by decide) ?_
  refine lv_istore_n (lv' := [(3, .int (nI 0)), (2, .int (nI 1)), (0, .ref m0), (1, .int (nI S))]) hx hb dMo_cells_3 rfl hl (by decide) rfl (fun ls hl => ?_)
  have L4 : ∀ (fu4 : Nat) (i a : Nat), (i ≤ n) → (a = cellsF V S i) → (n - i) < fu4 → ∀ (ls : Array Slot), lv_has ls 4 [(3, .int (nI i)), (2, .int (nI a)), (0, .ref m0), (1, .int (nI S))] → W p l e rm_Mo_cells s m args below meth c s.heap [] 0 0 Q (F0 m 4 ls []) := by
    intro fu4
    induction fu4 with
    | zero =>
      intro i a hi ha hm4
      exact absurd hm4 (Nat.not_lt_zero _)
    | succ fu4 ih4 =>
      intro i a hi ha hm4 ls hl
      refine lv_iload_n hx hb dMo_cells_4 rfl (lv_at hl 0 rfl) ?_
      refine lv_aload_n hx hb dMo_cells_5 rfl (lv_at hl 2 rfl) ?_
      refine gf_Mo_68 Sf r 0 rfl rfl dMo_cells_6 ?_
      refine z_icmpge (tgt := 40) hx hb (by omega) (by omega) dMo_cells_9 (by decide) (fun c9 => ?_) (fun c9 => ?_)
      · skip
        refine lv_iload_n hx hb dMo_cells_40 rfl (lv_at hl 1 rfl) ?_
        exact hret _ _ _ dMo_cells_41 (by rw [ha, show i = n by omega])
      · skip
        refine lv_iload_n hx hb dMo_cells_12 rfl (lv_at hl 3 rfl) ?_
        refine lv_iload_n hx hb dMo_cells_13 rfl (lv_at hl 0 rfl) ?_
        refine z_shrN hx hb (by omega) (by omega) dMo_cells_14 ?_
        refine lv_iconst (v := (nI 1)) hx hb dMo_cells_15 (by decide) ?_
        refine z_and1 hx hb dMo_cells_16 ?_
        refine lv_iconst (v := (nI 1)) hx hb dMo_cells_17 (by decide) ?_
        refine z_icmpneSB (tgt := 32) hx hb dMo_cells_18 (by decide) (fun c18 => ?_) (fun c18 => ?_)
        · skip
          refine lv_iload_n hx hb dMo_cells_32 rfl (lv_at hl 1 rfl) ?_
          refine lv_istore_n (lv' := [(2, .int (nI a)), (3, .int (nI i)), (0, .ref m0), (1, .int (nI S))]) hx hb dMo_cells_33 rfl hl (by decide) rfl (fun ls hl => ?_)
          refine z_iinc (d := 1) (lv' := [(3, .int (nI (i + 1))), (2, .int (nI a)), (0, .ref m0), (1, .int (nI S))]) hx hb dMo_cells_34 hl (k := 1) rfl (by decide) (by decide) rfl (fun ls hl => ?_)
          refine lv_goto (tgt := 4) hx hb dMo_cells_37 (by decide) ?_
          refine ih4 (i + 1) _ ?_ ?_ ?_ ls (lv_sub hl [0, 1, 2, 3] rfl)
          · omega
          · first | (rw [cellsF_t c18, ha]) | (rw [cellsF_f c18, ha])
          · omega
        · skip
          refine lv_iload_n hx hb dMo_cells_21 rfl (lv_at hl 1 rfl) ?_
          refine lv_aload_n hx hb dMo_cells_22 rfl (lv_at hl 2 rfl) ?_
          refine gf_Mo_7 Sf r 0 rfl rfl dMo_cells_23 ?_
          refine lv_iload_n hx hb dMo_cells_26 rfl (lv_at hl 0 rfl) ?_
          refine z_iald hx hb r 1 (k := i) rfl (by omega) (by omega) dMo_cells_27 ?_
          refine z_mulN hx hb dMo_cells_28 ?_
          refine lv_goto (tgt := 33) hx hb dMo_cells_29 (by decide) ?_
          refine lv_istore_n (lv' := [(2, .int (nI (a * (V i)))), (3, .int (nI i)), (0, .ref m0), (1, .int (nI S))]) hx hb dMo_cells_33 rfl hl (by decide) rfl (fun ls hl => ?_)
          refine z_iinc (d := 1) (lv' := [(3, .int (nI (i + 1))), (2, .int (nI (a * (V i)))), (0, .ref m0), (1, .int (nI S))]) hx hb dMo_cells_34 hl (k := 1) rfl (by decide) (by decide) rfl (fun ls hl => ?_)
          refine lv_goto (tgt := 4) hx hb dMo_cells_37 (by decide) ?_
          refine ih4 (i + 1) (a * (V i)) ?_ ?_ ?_ ls (lv_sub hl [0, 1, 2, 3] rfl)
          · omega
          · first | (rw [cellsF_t c18, ha]) | (rw [cellsF_f c18, ha])
          · omega
  refine L4 ((n - 0) + 1) 0 1 ?_ ?_ ?_ ls (lv_sub hl [0, 1, 2, 3] rfl)
  · omega
  · rfl
  · exact Nat.lt_succ_self _

def rm_Mo_allCopies : Room := { frames := 0, cells := 0, slots := 0, locals := 0 }
set_option maxHeartbeats 4000000 in
set_option maxRecDepth 100000 in
theorem c_Mo_allCopies (l : Launch) (G : zG) (m0 av ab apl ase aco aen aor aba ali ale ach ast atw ats : Nat) (n stt nf mem kd sl fi tp th : Nat) (Co : Nat → Nat) (hnf : nf ≤ 16) : Met l yMo_allCopies (.code yMo_allCopies cMo_allCopies 3 (some .int) :: zT) rm_Mo_allCopies (zPr G [.ref m0] [(m0, zO 7 [.int (nI n), .ref av, .ref ab, .ref apl, .int (nI stt), .int (nI nf), .ref ase, .ref aco, .ref aen, .int (nI mem), .int (nI kd), .int (nI sl), .ref aor, .ref aba, .int (nI fi), .ref ali, .ref ale, .ref ach, .ref ast, .ref atw, .ref ats, .int (nI tp), .int (nI th)]), (aco, zI G 16 (fun j => nI (Co j)))]) (k2_QcV (.int (nI (sumF Co nf)))) 0 0 (fun _ => False) := by
  refine z_metRi (by decide) (Nat.le_of_ble_eq_true rfl) (fun p e s m args below meth c ls Q Sf r hl hret => ?_)
  have Sf : CallFix p m c cMo_allCopies 3 s args zT RMo := Sf
  have hx := Sf.1
  have hb := Sf.2.1
  have hown := Sf.2.2.2.1
  have hts := Sf.2.2.2.2
  have hl : lv_has ls 3 [(0, .ref m0)] := hl
  refine lv_iconst (v := (nI 0)) hx hb dMo_allCopies_0 (by decide) ?_
  refine lv_istore_n (lv' := [(1, .int (nI 0)), (0, .ref m0)]) hx hb dMo_allCopies_1 rfl hl (by decide) rfl (fun ls hl => ?_)
  refine lv_iconst (v := (nI 0)) hx hb dMo_allCopies_2 (by decide) ?_
  refine lv_istore_n (lv' := [(2, .int (nI 0)), (1, .int (nI 0)), (0, .ref m0)]) hx hb dMo_allCopies_3 rfl hl (by decide) rfl (fun ls hl => ?_)
  have L4 : ∀ (fu4 : Nat) (i a : Nat), (i ≤ nf) → (a = sumF Co i) → (nf - i) < fu4 → ∀ (ls : Array Slot), lv_has ls 3 [(2, .int (nI i)), (1, .int (nI a)), (0, .ref m0)] → W p l e rm_Mo_allCopies s m args below meth c s.heap [] 0 0 Q (F0 m 4 ls []) := by
    intro fu4
    induction fu4 with
    | zero =>
      intro i a hi ha hm4
      exact absurd hm4 (Nat.not_lt_zero _)
    | succ fu4 ih4 =>
      intro i a hi ha hm4 ls hl
      refine lv_iload_n hx hb dMo_allCopies_4 rfl (lv_at hl 0 rfl) ?_
      refine lv_aload_n hx hb dMo_allCopies_5 rfl (lv_at hl 2 rfl) ?_
      refine gf_Mo_79 Sf r 0 rfl rfl dMo_allCopies_6 ?_
      refine z_icmpge (tgt := 27) hx hb (by omega) (by omega) dMo_allCopies_9 (by decide) (fun c9 => ?_) (fun c9 => ?_)
      · skip
        refine lv_iload_n hx hb dMo_allCopies_27 rfl (lv_at hl 1 rfl) ?_
        exact hret _ _ _ dMo_allCopies_28 (by rw [ha, show i = nf by omega])
      · skip
        refine lv_iload_n hx hb dMo_allCopies_12 rfl (lv_at hl 1 rfl) ?_
        refine lv_aload_n hx hb dMo_allCopies_13 rfl (lv_at hl 2 rfl) ?_
        refine gf_Mo_22 Sf r 0 rfl rfl dMo_allCopies_14 ?_
        refine lv_iload_n hx hb dMo_allCopies_17 rfl (lv_at hl 0 rfl) ?_
        refine z_iald hx hb r 1 (k := i) rfl (by omega) (by omega) dMo_allCopies_18 ?_
        refine z_addN hx hb dMo_allCopies_19 ?_
        refine lv_istore_n (lv' := [(1, .int (nI (a + (Co i)))), (2, .int (nI i)), (0, .ref m0)]) hx hb dMo_allCopies_20 rfl hl (by decide) rfl (fun ls hl => ?_)
        refine z_iinc (d := 1) (lv' := [(2, .int (nI (i + 1))), (1, .int (nI (a + (Co i)))), (0, .ref m0)]) hx hb dMo_allCopies_21 hl (k := 1) rfl (by decide) (by decide) rfl (fun ls hl => ?_)
        refine lv_goto (tgt := 4) hx hb dMo_allCopies_24 (by decide) ?_
        refine ih4 (i + 1) (a + (Co i)) ?_ ?_ ?_ ls (lv_sub hl [0, 1, 2] rfl)
        · omega
        · rw [ha]; rfl
        · omega
  refine L4 ((nf - 0) + 1) 0 0 ?_ ?_ ?_ ls (lv_sub hl [0, 1, 2] rfl)
  · omega
  · rfl
  · exact Nat.lt_succ_self _

def rm_Mo_draw : Room := { frames := 0, cells := 0, slots := 0, locals := 0 }
set_option maxHeartbeats 4000000 in
set_option maxRecDepth 100000 in
theorem c_Mo_draw (l : Launch) (G : zG) (m0 av ab apl ase aco aen aor aba ali ale ach ast atw ats : Nat) (n stt nf mem kd sl fi tp th : Nat) (Se Li : Nat → Nat) (hn : n ≤ 12) (hnf : nf ≤ 16) (hSe : ∀ i, Se i < 4096) (sz : Nat) : Met l yMo_draw (.code yMo_draw cMo_draw 3 none :: zT) rm_Mo_draw (zPw G [.ref m0] [(m0, zO 7 [.int (nI n), .ref av, .ref ab, .ref apl, .int (nI stt), .int (nI nf), .ref ase, .ref aco, .ref aen, .int (nI mem), .int (nI kd), .int (nI sl), .ref aor, .ref aba, .int (nI fi), .ref ali, .ref ale, .ref ach, .ref ast, .ref atw, .ref ats, .int (nI tp), .int (nI th)]), (ase, zI G 16 (fun j => nI (Se j))), (ali, zI G 12 (fun j => nI (Li j)))] sz) (zQ (S := Unit) G (fun u => none) (fun u => [(m0, zO 7 [.int (nI n), .ref av, .ref ab, .ref apl, .int (nI stt), .int (nI nf), .ref ase, .ref aco, .ref aen, .int (nI mem), .int (nI kd), .int (nI sl), .ref aor, .ref aba, .int (nI fi), .ref ali, .ref ale, .ref ach, .ref ast, .ref atw, .ref ats, .int (nI tp), .int (nI th)]), (ase, zI G 16 (fun j => nI (Se j))), (ali, zI G 12 (fun j => nI ((rowF Li (drF Se nf) n) j)))]) (va_A [(m0, zO 7 [.int (nI n), .ref av, .ref ab, .ref apl, .int (nI stt), .int (nI nf), .ref ase, .ref aco, .ref aen, .int (nI mem), .int (nI kd), .int (nI sl), .ref aor, .ref aba, .int (nI fi), .ref ali, .ref ale, .ref ach, .ref ast, .ref atw, .ref ats, .int (nI tp), .int (nI th)]), (ase, zI G 16 (fun j => nI (Se j))), (ali, zI G 12 (fun j => nI (Li j)))] sz) (fun u => True)) 0 0 (va_A [(m0, zO 7 [.int (nI n), .ref av, .ref ab, .ref apl, .int (nI stt), .int (nI nf), .ref ase, .ref aco, .ref aen, .int (nI mem), .int (nI kd), .int (nI sl), .ref aor, .ref aba, .int (nI fi), .ref ali, .ref ale, .ref ach, .ref ast, .ref atw, .ref ats, .int (nI tp), .int (nI th)]), (ase, zI G 16 (fun j => nI (Se j))), (ali, zI G 12 (fun j => nI (Li j)))] sz) := by
  refine z_metWv (by decide) (Nat.le_of_ble_eq_true rfl) (fun p e s m args below meth c ls A Q Sf hnm w hl hret => ?_)
  obtain ⟨H, hH⟩ : ∃ H, H = s.heap := ⟨_, rfl⟩
  obtain ⟨locs, hlo⟩ : ∃ L : List Loc, L = [] := ⟨_, rfl⟩
  rw [← hH, ← hlo] at w
  rw [← hH, ← hlo]
  clear hH hlo
  have Sf : CallFix p m c cMo_draw 3 s args zT RMo := Sf
  have hx := Sf.1
  have hb := Sf.2.1
  have hown := Sf.2.2.2.1
  have hts := Sf.2.2.2.2
  have hl : lv_has ls 3 [(0, .ref m0)] := hl
  refine lv_iconst (v := (nI 0)) hx hb dMo_draw_0 (by decide) ?_
  refine lv_istore_n (lv' := [(1, .int (nI 0)), (0, .ref m0)]) hx hb dMo_draw_1 rfl hl (by decide) rfl (fun ls hl => ?_)
  have L2 : ∀ (fu2 : Nat) (a : Nat) (F : Nat → Nat), (a ≤ n) → (F = rowF Li (drF Se nf) a) → (n - a) < fu2 → ∀ (H : Heap) (locs : List Loc), zw G A s [(m0, zO 7 [.int (nI n), .ref av, .ref ab, .ref apl, .int (nI stt), .int (nI nf), .ref ase, .ref aco, .ref aen, .int (nI mem), .int (nI kd), .int (nI sl), .ref aor, .ref aba, .int (nI fi), .ref ali, .ref ale, .ref ach, .ref ast, .ref atw, .ref ats, .int (nI tp), .int (nI th)]), (ase, zI G 16 (fun j => nI (Se j))), (ali, zI G 12 (fun j => nI (F j)))] H locs → ∀ (ls : Array Slot), lv_has ls 3 [(1, .int (nI a)), (0, .ref m0)] → W p l e rm_Mo_draw s m args below meth c H locs 0 0 Q (F0 m 2 ls []) := by
    intro fu2
    induction fu2 with
    | zero =>
      intro a F ha hF hm2
      exact absurd hm2 (Nat.not_lt_zero _)
    | succ fu2 ih2 =>
      intro a F ha hF hm2 H locs w ls hl
      refine lv_iload_n hx hb dMo_draw_2 rfl (lv_at hl 0 rfl) ?_
      refine lv_aload_n hx hb dMo_draw_3 rfl (lv_at hl 1 rfl) ?_
      refine gf_Mo_68 Sf w.1 0 rfl rfl dMo_draw_4 ?_
      refine z_icmpge (tgt := 99) hx hb (by omega) (by omega) dMo_draw_7 (by decide) (fun c7 => ?_) (fun c7 => ?_)
      · skip
        exact hret _ _ _ _ () _ w (by rw [hF, show a = n by omega]) (trivial) dMo_draw_99 rfl
      · skip
        refine lv_aload_n hx hb dMo_draw_10 rfl (lv_at hl 1 rfl) ?_
        refine gf_Mo_34 Sf w.1 0 rfl rfl dMo_draw_11 ?_
        refine lv_iload_n hx hb dMo_draw_14 rfl (lv_at hl 0 rfl) ?_
        refine lv_iconst (v := (nI 0)) hx hb dMo_draw_15 (by decide) ?_
        refine z_iastN hx hb w 2 (k := a) rfl (by omega) (by omega) (ws' := [(m0, zO 7 [.int (nI n), .ref av, .ref ab, .ref apl, .int (nI stt), .int (nI nf), .ref ase, .ref aco, .ref aen, .int (nI mem), .int (nI kd), .int (nI sl), .ref aor, .ref aba, .int (nI fi), .ref ali, .ref ale, .ref ach, .ref ast, .ref atw, .ref ats, .int (nI tp), .int (nI th)]), (ase, zI G 16 (fun j => nI (Se j))), (ali, zI G 12 (fun j => nI ((va_up F a 0) j)))]) rfl dMo_draw_16 (fun H locs w => ?_)
        refine lv_iconst (v := (nI 0)) hx hb dMo_draw_17 (by decide) ?_
        refine lv_istore_n (lv' := [(2, .int (nI 0)), (1, .int (nI a)), (0, .ref m0)]) hx hb dMo_draw_18 rfl hl (by decide) rfl (fun ls hl => ?_)
        have L19 : ∀ (fu19 : Nat) (f : Nat) (F2 : Nat → Nat), (f ≤ nf) → (F2 = va_up F a (orF Se a f)) → (nf - f) < fu19 → ∀ (H : Heap) (locs : List Loc), zw G A s [(m0, zO 7 [.int (nI n), .ref av, .ref ab, .ref apl, .int (nI stt), .int (nI nf), .ref ase, .ref aco, .ref aen, .int (nI mem), .int (nI kd), .int (nI sl), .ref aor, .ref aba, .int (nI fi), .ref ali, .ref ale, .ref ach, .ref ast, .ref atw, .ref ats, .int (nI tp), .int (nI th)]), (ase, zI G 16 (fun j => nI (Se j))), (ali, zI G 12 (fun j => nI (F2 j)))] H locs → ∀ (ls : Array Slot), lv_has ls 3 [(2, .int (nI f)), (1, .int (nI a)), (0, .ref m0)] → W p l e rm_Mo_draw s m args below meth c H locs 0 0 Q (F0 m 19 ls []) := by
          intro fu19
          induction fu19 with
          | zero =>
            intro f F2 hf hF2 hm19
            exact absurd hm19 (Nat.not_lt_zero _)
          | succ fu19 ih19 =>
            intro f F2 hf hF2 hm19 H locs w ls hl
            refine lv_iload_n hx hb dMo_draw_19 rfl (lv_at hl 0 rfl) ?_
            refine lv_aload_n hx hb dMo_draw_20 rfl (lv_at hl 2 rfl) ?_
            refine gf_Mo_79 Sf w.1 0 rfl rfl dMo_draw_21 ?_
            refine z_icmpge (tgt := 75) hx hb (by omega) (by omega) dMo_draw_24 (by decide) (fun c24 => ?_) (fun c24 => ?_)
            · skip
              refine lv_aload_n hx hb dMo_draw_75 rfl (lv_at hl 2 rfl) ?_
              refine gf_Mo_34 Sf w.1 0 rfl rfl dMo_draw_76 ?_
              refine lv_iload_n hx hb dMo_draw_79 rfl (lv_at hl 1 rfl) ?_
              refine lv_aload_n hx hb dMo_draw_80 rfl (lv_at hl 2 rfl) ?_
              refine gf_Mo_34 Sf w.1 0 rfl rfl dMo_draw_81 ?_
              refine lv_iload_n hx hb dMo_draw_84 rfl (lv_at hl 1 rfl) ?_
              refine z_iald hx hb w.1 2 (k := a) rfl (by omega) (by omega) dMo_draw_85 ?_
              refine lv_iconst (v := (nI 1)) hx hb dMo_draw_86 (by decide) ?_
              refine lv_iload_n hx hb dMo_draw_87 rfl (lv_at hl 1 rfl) ?_
              refine z_shl1 hx hb (by omega) dMo_draw_88 ?_
              refine lv_iconst (v := (-1)) hx hb dMo_draw_89 (by decide) ?_
              refine lv_ixor hx hb dMo_draw_90 ?_
              refine z_andC hx hb dMo_draw_91 ?_
              refine z_iastN hx hb w 2 (k := a) rfl (by omega) (by omega) (ws' := [(m0, zO 7 [.int (nI n), .ref av, .ref ab, .ref apl, .int (nI stt), .int (nI nf), .ref ase, .ref aco, .ref aen, .int (nI mem), .int (nI kd), .int (nI sl), .ref aor, .ref aba, .int (nI fi), .ref ali, .ref ale, .ref ach, .ref ast, .ref atw, .ref ats, .int (nI tp), .int (nI th)]), (ase, zI G 16 (fun j => nI (Se j))), (ali, zI G 12 (fun j => nI ((va_up F2 a (sdf (F2 a) (2 ^ a))) j)))]) rfl dMo_draw_92 (fun H locs w => ?_)
              refine z_iinc (d := 1) (lv' := [(1, .int (nI (a + 1))), (2, .int (nI f)), (0, .ref m0)]) hx hb dMo_draw_93 hl (k := 1) rfl (by decide) (by decide) rfl (fun ls hl => ?_)
              refine lv_goto (tgt := 2) hx hb dMo_draw_96 (by decide) ?_
              refine ih2 (a + 1) (va_up F2 a (sdf (F2 a) (2 ^ a))) ?_ ?_ ?_ _ _ w ls (lv_sub hl [0, 2] rfl)
              · omega
              · rw [hF2, bx_uu, va_up_self, hF, ← rowF_s, show f = nf by omega]; rfl
              · omega
            · skip
              refine lv_aload_n hx hb dMo_draw_27 rfl (lv_at hl 2 rfl) ?_
              refine gf_Mo_34 Sf w.1 0 rfl rfl dMo_draw_28 ?_
              refine lv_iload_n hx hb dMo_draw_31 rfl (lv_at hl 1 rfl) ?_
              refine lv_aload_n hx hb dMo_draw_32 rfl (lv_at hl 2 rfl) ?_
              refine gf_Mo_19 Sf w.1 0 rfl rfl dMo_draw_33 ?_
              refine lv_iload_n hx hb dMo_draw_36 rfl (lv_at hl 0 rfl) ?_
              refine z_iald hx hb w.1 1 (k := f) rfl (by omega) (by omega) dMo_draw_37 ?_
              refine lv_iload_n hx hb dMo_draw_38 rfl (lv_at hl 1 rfl) ?_
              refine z_shrN hx hb (Nat.lt_trans (hSe f) (by decide)) (by omega) dMo_draw_39 ?_
              refine lv_iconst (v := (nI 1)) hx hb dMo_draw_40 (by decide) ?_
              refine z_and1 hx hb dMo_draw_41 ?_
              refine lv_iconst (v := (nI 1)) hx hb dMo_draw_42 (by decide) ?_
              refine z_icmpneSB (tgt := 62) hx hb dMo_draw_43 (by decide) (fun c43 => ?_) (fun c43 => ?_)
              · skip
                refine lv_aload_n hx hb dMo_draw_62 rfl (lv_at hl 2 rfl) ?_
                refine gf_Mo_34 Sf w.1 0 rfl rfl dMo_draw_63 ?_
                refine lv_iload_n hx hb dMo_draw_66 rfl (lv_at hl 1 rfl) ?_
                refine z_iald hx hb w.1 2 (k := a) rfl (by omega) (by omega) dMo_draw_67 ?_
                refine z_iastN hx hb w 2 (k := a) rfl (by omega) (by omega) (ws' := [(m0, zO 7 [.int (nI n), .ref av, .ref ab, .ref apl, .int (nI stt), .int (nI nf), .ref ase, .ref aco, .ref aen, .int (nI mem), .int (nI kd), .int (nI sl), .ref aor, .ref aba, .int (nI fi), .ref ali, .ref ale, .ref ach, .ref ast, .ref atw, .ref ats, .int (nI tp), .int (nI th)]), (ase, zI G 16 (fun j => nI (Se j))), (ali, zI G 12 (fun j => nI ((va_up F2 a (F2 a)) j)))]) rfl dMo_draw_68 (fun H locs w => ?_)
                refine z_iinc (d := 1) (lv' := [(2, .int (nI (f + 1))), (1, .int (nI a)), (0, .ref m0)]) hx hb dMo_draw_69 hl (k := 0) rfl (by decide) (by decide) rfl (fun ls hl => ?_)
                refine lv_goto (tgt := 19) hx hb dMo_draw_72 (by decide) ?_
                refine ih19 (f + 1) (va_up F2 a (F2 a)) ?_ ?_ ?_ _ _ w ls (lv_sub hl [0, 1, 2] rfl)
                · omega
                · first | (rw [hF2, bx_uu, va_up_self, orF_t c43]) | (rw [hF2, bx_uu, va_up_self, orF_f c43])
                · omega
              · skip
                refine lv_aload_n hx hb dMo_draw_46 rfl (lv_at hl 2 rfl) ?_
                refine gf_Mo_34 Sf w.1 0 rfl rfl dMo_draw_47 ?_
                refine lv_iload_n hx hb dMo_draw_50 rfl (lv_at hl 1 rfl) ?_
                refine z_iald hx hb w.1 2 (k := a) rfl (by omega) (by omega) dMo_draw_51 ?_
                refine lv_aload_n hx hb dMo_draw_52 rfl (lv_at hl 2 rfl) ?_
                refine gf_Mo_19 Sf w.1 0 rfl rfl dMo_draw_53 ?_
                refine lv_iload_n hx hb dMo_draw_56 rfl (lv_at hl 0 rfl) ?_
                refine z_iald hx hb w.1 1 (k := f) rfl (by omega) (by omega) dMo_draw_57 ?_
                refine z_orN hx hb dMo_draw_58 ?_
                refine lv_goto (tgt := 68) hx hb dMo_draw_59 (by decide) ?_
                refine z_iastN hx hb w 2 (k := a) rfl (by omega) (by omega) (ws' := [(m0, zO 7 [.int (nI n), .ref av, .ref ab, .ref apl, .int (nI stt), .int (nI nf), .ref ase, .ref aco, .ref aen, .int (nI mem), .int (nI kd), .int (nI sl), .ref aor, .ref aba, .int (nI fi), .ref ali, .ref ale, .ref ach, .ref ast, .ref atw, .ref ats, .int (nI tp), .int (nI th)]), (ase, zI G 16 (fun j => nI (Se j))), (ali, zI G 12 (fun j => nI ((va_up F2 a ((F2 a) ||| (Se f))) j)))]) rfl dMo_draw_68 (fun H locs w => ?_)
                refine z_iinc (d := 1) (lv' := [(2, .int (nI (f + 1))), (1, .int (nI a)), (0, .ref m0)]) hx hb dMo_draw_69 hl (k := 0) rfl (by decide) (by decide) rfl (fun ls hl => ?_)
                refine lv_goto (tgt := 19) hx hb dMo_draw_72 (by decide) ?_
                refine ih19 (f + 1) (va_up F2 a ((F2 a) ||| (Se f))) ?_ ?_ ?_ _ _ w ls (lv_sub hl [0, 1, 2] rfl)
                · omega
                · first | (rw [hF2, bx_uu, va_up_self, orF_t c43]) | (rw [hF2, bx_uu, va_up_self, orF_f c43])
                · omega
        refine L19 ((nf - 0) + 1) 0 (va_up F a 0) ?_ ?_ ?_ _ _ w ls (lv_sub hl [0, 1, 2] rfl)
        · omega
        · rfl
        · exact Nat.lt_succ_self _
  refine L2 ((n - 0) + 1) 0 Li ?_ ?_ ?_ _ _ w ls (lv_sub hl [0, 1] rfl)
  · omega
  · exact (rowF_0 _ _).symm
  · exact Nat.lt_succ_self _

def rm_Mo_fill : Room := { frames := 0, cells := 0, slots := 0, locals := 0 }
set_option maxHeartbeats 4000000 in
set_option maxRecDepth 100000 in
theorem c_Mo_fill (l : Launch) (G : zG) (m0 av ab apl ase aco aen aor aba ali ale ach ast atw ats : Nat) (n stt nf mem kd sl fi tp th : Nat) (Li : Nat → Nat) (x : Nat) (hn : n ≤ 12) (hx0 : x < n) (hLi : ∀ i, Li i < 4096) : Met l yMo_fill (.code yMo_fill cMo_fill 6 (some .int) :: zT) rm_Mo_fill (zPr G [.ref m0, .int (nI x)] [(m0, zO 7 [.int (nI n), .ref av, .ref ab, .ref apl, .int (nI stt), .int (nI nf), .ref ase, .ref aco, .ref aen, .int (nI mem), .int (nI kd), .int (nI sl), .ref aor, .ref aba, .int (nI fi), .ref ali, .ref ale, .ref ach, .ref ast, .ref atw, .ref ats, .int (nI tp), .int (nI th)]), (ali, zI G 12 (fun j => nI (Li j)))]) (k2_QcV (.int (nI (filF Li x n)))) 0 0 (fun _ => False) := by
  refine z_metRi (by decide) (Nat.le_of_ble_eq_true rfl) (fun p e s m args below meth c ls Q Sf r hl hret => ?_)
  have Sf : CallFix p m c cMo_fill 6 s args zT RMo := Sf
  have hx := Sf.1
  have hb := Sf.2.1
  have hown := Sf.2.2.2.1
  have hts := Sf.2.2.2.2
  have hl : lv_has ls 6 [(0, .ref m0), (1, .int (nI x))] := hl
  refine lv_iconst (v := (nI 0)) hx hb dMo_fill_0 (by decide) ?_
  refine lv_istore_n (lv' := [(2, .int (nI 0)), (0, .ref m0), (1, .int (nI x))]) hx hb dMo_fill_1 rfl hl (by decide) rfl (fun ls hl => ?_)
  refine lv_iconst (v := (nI 0)) hx hb dMo_fill_2 (by decide) ?_
  refine lv_istore_n (lv' := [(3, .int (nI 0)), (2, .int (nI 0)), (0, .ref m0), (1, .int (nI x))]) hx hb dMo_fill_3 rfl hl (by decide) rfl (fun ls hl => ?_)
  have L4 : ∀ (fu4 : Nat) (b t : Nat), (b ≤ n) → (t = filF Li x b) → (n - b) < fu4 → ∀ (ls : Array Slot), lv_has ls 6 [(3, .int (nI b)), (2, .int (nI t)), (0, .ref m0), (1, .int (nI x))] → W p l e rm_Mo_fill s m args below meth c s.heap [] 0 0 Q (F0 m 4 ls []) := by
    intro fu4
    induction fu4 with
    | zero =>
      intro b t hb0 ht hm4
      exact absurd hm4 (Nat.not_lt_zero _)
    | succ fu4 ih4 =>
      intro b t hb0 ht hm4 ls hl
      refine lv_iload_n hx hb dMo_fill_4 rfl (lv_at hl 0 rfl) ?_
      refine lv_aload_n hx hb dMo_fill_5 rfl (lv_at hl 2 rfl) ?_
      refine gf_Mo_68 Sf r 0 rfl rfl dMo_fill_6 ?_
      refine z_icmpge (tgt := 96) hx hb (by omega) (by omega) dMo_fill_9 (by decide) (fun c9 => ?_) (fun c9 => ?_)
      · skip
        refine lv_iload_n hx hb dMo_fill_96 rfl (lv_at hl 1 rfl) ?_
        exact hret _ _ _ dMo_fill_97 (by rw [ht, show b = n by omega])
      · skip
        refine lv_iconst (v := (nI 0)) hx hb dMo_fill_12 (by decide) ?_
        refine lv_istore (lv' := [(4, .int (nI 0)), (3, .int (nI b)), (2, .int (nI t)), (0, .ref m0), (1, .int (nI x))]) hx hb dMo_fill_13 hl (by decide) rfl (fun ls hl => ?_)
        have L15 : ∀ (fu15 : Nat) (k t2 : Nat), (k ≤ b) → (t2 = filF Li x b + filI Li x b k) → (b - k) < fu15 → ∀ (ls : Array Slot), lv_has ls 6 [(4, .int (nI k)), (3, .int (nI b)), (2, .int (nI t2)), (0, .ref m0), (1, .int (nI x))] → W p l e rm_Mo_fill s m args below meth c s.heap [] 0 0 Q (F0 m 15 ls []) := by
          intro fu15
          induction fu15 with
          | zero =>
            intro k t2 hk ht2 hm15
            exact absurd hm15 (Nat.not_lt_zero _)
          | succ fu15 ih15 =>
            intro k t2 hk ht2 hm15 ls hl
            refine lv_iload hx hb dMo_fill_15 (lv_at hl 0 rfl) ?_
            refine lv_iload_n hx hb dMo_fill_17 rfl (lv_at hl 1 rfl) ?_
            refine z_icmpge (tgt := 90) hx hb (by omega) (by omega) dMo_fill_18 (by decide) (fun c18 => ?_) (fun c18 => ?_)
            · skip
              refine z_iinc (d := 1) (lv' := [(3, .int (nI (b + 1))), (4, .int (nI k)), (2, .int (nI t2)), (0, .ref m0), (1, .int (nI x))]) hx hb dMo_fill_90 hl (k := 1) rfl (by decide) (by decide) rfl (fun ls hl => ?_)
              refine lv_goto (tgt := 4) hx hb dMo_fill_93 (by decide) ?_
              refine ih4 (b + 1) t2 ?_ ?_ ?_ ls (lv_sub hl [0, 2, 3, 4] rfl)
              · omega
              · rw [ht2, show k = b by omega]; rfl
              · omega
            · skip
              refine lv_aload_n hx hb dMo_fill_21 rfl (lv_at hl 3 rfl) ?_
              refine gf_Mo_34 Sf r 0 rfl rfl dMo_fill_22 ?_
              refine lv_iload_n hx hb dMo_fill_25 rfl (lv_at hl 4 rfl) ?_
              refine z_iald hx hb r 1 (k := x) rfl (by omega) (by omega) dMo_fill_26 ?_
              refine lv_iload_n hx hb dMo_fill_27 rfl (lv_at hl 1 rfl) ?_
              refine z_shrN hx hb (Nat.lt_trans (hLi _) (by decide)) (by omega) dMo_fill_28 ?_
              refine lv_iconst (v := (nI 1)) hx hb dMo_fill_29 (by decide) ?_
              refine z_and1 hx hb dMo_fill_30 ?_
              refine lv_iconst (v := (nI 1)) hx hb dMo_fill_31 (by decide) ?_
              refine z_icmpneSB (tgt := 54) hx hb dMo_fill_32 (by decide) (fun c32 => ?_) (fun c32 => ?_)
              · skip
                refine lv_iconst (v := (nI 0)) hx hb dMo_fill_54 (by decide) ?_
                refine lv_istore (lv' := [(5, .int (nI 0)), (4, .int (nI k)), (3, .int (nI b)), (2, .int (nI t2)), (0, .ref m0), (1, .int (nI x))]) hx hb dMo_fill_55 hl (by decide) rfl (fun ls hl => ?_)
                refine lv_iload hx hb dMo_fill_57 (lv_at hl 0 rfl) ?_
                refine z_ifeqN (tgt := 82) hx hb (by decide) dMo_fill_59 (by decide) (fun _ => ?_) (fun q => absurd q (by decide))
                refine lv_iload_n hx hb dMo_fill_82 rfl (lv_at hl 3 rfl) ?_
                refine lv_istore_n (lv' := [(2, .int (nI t2)), (5, .int (nI 0)), (4, .int (nI k)), (3, .int (nI b)), (0, .ref m0), (1, .int (nI x))]) hx hb dMo_fill_83 rfl hl (by decide) rfl (fun ls hl => ?_)
                refine z_iinc (d := 1) (lv' := [(4, .int (nI (k + 1))), (2, .int (nI t2)), (5, .int (nI 0)), (3, .int (nI b)), (0, .ref m0), (1, .int (nI x))]) hx hb dMo_fill_84 hl (k := 2) rfl (by decide) (by decide) rfl (fun ls hl => ?_)
                refine lv_goto (tgt := 15) hx hb dMo_fill_87 (by decide) ?_
                refine ih15 (k + 1) _ ?_ ?_ ?_ ls (lv_sub hl [0, 3, 1, 4, 5] rfl)
                · omega
                · first | (rw [filI_t c32 c47 c73, ht2, Nat.add_assoc]) | (rw [filI_f3 c73, ht2]) | (rw [filI_f2 c47, ht2]) | (rw [filI_f1 c32, ht2])
                · omega
              · skip
                refine lv_aload_n hx hb dMo_fill_35 rfl (lv_at hl 3 rfl) ?_
                refine gf_Mo_34 Sf r 0 rfl rfl dMo_fill_36 ?_
                refine lv_iload_n hx hb dMo_fill_39 rfl (lv_at hl 4 rfl) ?_
                refine z_iald hx hb r 1 (k := x) rfl (by omega) (by omega) dMo_fill_40 ?_
                refine lv_iload hx hb dMo_fill_41 (lv_at hl 0 rfl) ?_
                refine z_shrN hx hb (Nat.lt_trans (hLi _) (by decide)) (by omega) dMo_fill_43 ?_
                refine lv_iconst (v := (nI 1)) hx hb dMo_fill_44 (by decide) ?_
                refine z_and1 hx hb dMo_fill_45 ?_
                refine lv_iconst (v := (nI 1)) hx hb dMo_fill_46 (by decide) ?_
                refine z_icmpneSB (tgt := 54) hx hb dMo_fill_47 (by decide) (fun c47 => ?_) (fun c47 => ?_)
                · skip
                  refine lv_iconst (v := (nI 0)) hx hb dMo_fill_54 (by decide) ?_
                  refine lv_istore (lv' := [(5, .int (nI 0)), (4, .int (nI k)), (3, .int (nI b)), (2, .int (nI t2)), (0, .ref m0), (1, .int (nI x))]) hx hb dMo_fill_55 hl (by decide) rfl (fun ls hl => ?_)
                  refine lv_iload hx hb dMo_fill_57 (lv_at hl 0 rfl) ?_
                  refine z_ifeqN (tgt := 82) hx hb (by decide) dMo_fill_59 (by decide) (fun _ => ?_) (fun q => absurd q (by decide))
                  refine lv_iload_n hx hb dMo_fill_82 rfl (lv_at hl 3 rfl) ?_
                  refine lv_istore_n (lv' := [(2, .int (nI t2)), (5, .int (nI 0)), (4, .int (nI k)), (3, .int (nI b)), (0, .ref m0), (1, .int (nI x))]) hx hb dMo_fill_83 rfl hl (by decide) rfl (fun ls hl => ?_)
                  refine z_iinc (d := 1) (lv' := [(4, .int (nI (k + 1))), (2, .int (nI t2)), (5, .int (nI 0)), (3, .int (nI b)), (0, .ref m0), (1, .int (nI x))]) hx hb dMo_fill_84 hl (k := 2) rfl (by decide) (by decide) rfl (fun ls hl => ?_)
                  refine lv_goto (tgt := 15) hx hb dMo_fill_87 (by decide) ?_
                  refine ih15 (k + 1) _ ?_ ?_ ?_ ls (lv_sub hl [0, 3, 1, 4, 5] rfl)
                  · omega
                  · first | (rw [filI_t c32 c47 c73, ht2, Nat.add_assoc]) | (rw [filI_f3 c73, ht2]) | (rw [filI_f2 c47, ht2]) | (rw [filI_f1 c32, ht2])
                  · omega
                · skip
                  refine lv_iconst (v := (nI 1)) hx hb dMo_fill_50 (by decide) ?_
                  refine lv_goto (tgt := 55) hx hb dMo_fill_51 (by decide) ?_
                  refine lv_istore (lv' := [(5, .int (nI 1)), (4, .int (nI k)), (3, .int (nI b)), (2, .int (nI t2)), (0, .ref m0), (1, .int (nI x))]) hx hb dMo_fill_55 hl (by decide) rfl (fun ls hl => ?_)
                  refine lv_iload hx hb dMo_fill_57 (lv_at hl 0 rfl) ?_
                  refine z_ifeqN (tgt := 82) hx hb (by decide) dMo_fill_59 (by decide) (fun q => absurd q (by decide)) (fun _ => ?_)
                  refine lv_aload_n hx hb dMo_fill_62 rfl (lv_at hl 4 rfl) ?_
                  refine gf_Mo_34 Sf r 0 rfl rfl dMo_fill_63 ?_
                  refine lv_iload_n hx hb dMo_fill_66 rfl (lv_at hl 2 rfl) ?_
                  refine z_iald hx hb r 1 (k := b) rfl (by omega) (by omega) dMo_fill_67 ?_
                  refine lv_iload hx hb dMo_fill_68 (lv_at hl 1 rfl) ?_
                  refine z_shrN hx hb (Nat.lt_trans (hLi _) (by decide)) (by omega) dMo_fill_70 ?_
                  refine lv_iconst (v := (nI 1)) hx hb dMo_fill_71 (by decide) ?_
                  refine z_and1 hx hb dMo_fill_72 ?_
                  refine z_ifneSB (tgt := 82) hx hb dMo_fill_73 (by decide) (fun c73 => ?_) (fun c73 => ?_)
                  · skip
                    refine lv_iload_n hx hb dMo_fill_82 rfl (lv_at hl 3 rfl) ?_
                    refine lv_istore_n (lv' := [(2, .int (nI t2)), (5, .int (nI 1)), (4, .int (nI k)), (3, .int (nI b)), (0, .ref m0), (1, .int (nI x))]) hx hb dMo_fill_83 rfl hl (by decide) rfl (fun ls hl => ?_)
                    refine z_iinc (d := 1) (lv' := [(4, .int (nI (k + 1))), (2, .int (nI t2)), (5, .int (nI 1)), (3, .int (nI b)), (0, .ref m0), (1, .int (nI x))]) hx hb dMo_fill_84 hl (k := 2) rfl (by decide) (by decide) rfl (fun ls hl => ?_)
                    refine lv_goto (tgt := 15) hx hb dMo_fill_87 (by decide) ?_
                    refine ih15 (k + 1) _ ?_ ?_ ?_ ls (lv_sub hl [0, 3, 1, 4, 5] rfl)
                    · omega
                    · first | (rw [filI_t c32 c47 c73, ht2, Nat.add_assoc]) | (rw [filI_f3 c73, ht2]) | (rw [filI_f2 c47, ht2]) | (rw [filI_f1 c32, ht2])
                    · omega
                  · skip
                    refine lv_iload_n hx hb dMo_fill_76 rfl (lv_at hl 3 rfl) ?_
                    refine lv_iconst (v := (nI 1)) hx hb dMo_fill_77 (by decide) ?_
                    refine z_addN hx hb dMo_fill_78 ?_
                    refine lv_goto (tgt := 83) hx hb dMo_fill_79 (by decide) ?_
                    refine lv_istore_n (lv' := [(2, .int (nI (t2 + 1))), (5, .int (nI 1)), (4, .int (nI k)), (3, .int (nI b)), (0, .ref m0), (1, .int (nI x))]) hx hb dMo_fill_83 rfl hl (by decide) rfl (fun ls hl => ?_)
                    refine z_iinc (d := 1) (lv' := [(4, .int (nI (k + 1))), (2, .int (nI (t2 + 1))), (5, .int (nI 1)), (3, .int (nI b)), (0, .ref m0), (1, .int (nI x))]) hx hb dMo_fill_84 hl (k := 2) rfl (by decide) (by decide) rfl (fun ls hl => ?_)
                    refine lv_goto (tgt := 15) hx hb dMo_fill_87 (by decide) ?_
                    refine ih15 (k + 1) (t2 + 1) ?_ ?_ ?_ ls (lv_sub hl [0, 3, 1, 4, 5] rfl)
                    · omega
                    · first | (rw [filI_t c32 c47 c73, ht2, Nat.add_assoc]) | (rw [filI_f3 c73, ht2]) | (rw [filI_f2 c47, ht2]) | (rw [filI_f1 c32, ht2])
                    · omega
        refine L15 ((b - 0) + 1) 0 t ?_ ?_ ?_ ls (lv_sub hl [0, 1, 2, 3, 4] rfl)
        · omega
        · rw [ht]; rfl
        · exact Nat.lt_succ_self _
  refine L4 ((n - 0) + 1) 0 0 ?_ ?_ ?_ ls (lv_sub hl [0, 1, 2, 3] rfl)
  · omega
  · rfl
  · exact Nat.lt_succ_self _

def rm_Mo_takeOut : Room := { frames := 1, cells := 0, slots := 0, locals := 40 }
set_option maxHeartbeats 4000000 in
set_option maxRecDepth 100000 in
theorem c_Mo_takeOut (l : Launch) (G : zG) (m0 av ab apl ase aco aen aor aba ali ale ach ast atw ats : Nat) (n stt nf mem kd sl fi tp th : Nat) (Od Bg Li : Nat → Nat) (x i : Nat) (hn : n ≤ 12) (hx0 : x < n) (hi : i < n) (hLi : ∀ i, Li i < 4096) (sz : Nat) : Met l yMo_takeOut (.code yMo_takeOut cMo_takeOut 5 none :: zT) rm_Mo_takeOut (zPw G [.ref m0, .int (nI x), .int (nI i)] [(m0, zO 7 [.int (nI n), .ref av, .ref ab, .ref apl, .int (nI stt), .int (nI nf), .ref ase, .ref aco, .ref aen, .int (nI mem), .int (nI kd), .int (nI sl), .ref aor, .ref aba, .int (nI fi), .ref ali, .ref ale, .ref ach, .ref ast, .ref atw, .ref ats, .int (nI tp), .int (nI th)]), (aor, zI G 12 (fun j => nI (Od j))), (aba, zI G 12 (fun j => nI (Bg j))), (ali, zI G 12 (fun j => nI (Li j)))] sz) (zQ (S := Unit) G (fun u => none) (fun u => [(m0, zO 7 [.int (nI n), .ref av, .ref ab, .ref apl, .int (nI stt), .int (nI nf), .ref ase, .ref aco, .ref aen, .int (nI mem), .int (nI kd), .int (nI sl), .ref aor, .ref aba, .int (nI (fi + filF Li x n)), .ref ali, .ref ale, .ref ach, .ref ast, .ref atw, .ref ats, .int (nI tp), .int (nI th)]), (aor, zI G 12 (fun j => nI ((va_up Od i x) j))), (aba, zI G 12 (fun j => nI ((va_up Bg i (Li x ||| 2 ^ x)) j))), (ali, zI G 12 (fun j => nI ((toF Li n x) j)))]) (va_A [(m0, zO 7 [.int (nI n), .ref av, .ref ab, .ref apl, .int (nI stt), .int (nI nf), .ref ase, .ref aco, .ref aen, .int (nI mem), .int (nI kd), .int (nI sl), .ref aor, .ref aba, .int (nI fi), .ref ali, .ref ale, .ref ach, .ref ast, .ref atw, .ref ats, .int (nI tp), .int (nI th)]), (aor, zI G 12 (fun j => nI (Od j))), (aba, zI G 12 (fun j => nI (Bg j))), (ali, zI G 12 (fun j => nI (Li j)))] sz) (fun u => True)) 0 0 (va_A [(m0, zO 7 [.int (nI n), .ref av, .ref ab, .ref apl, .int (nI stt), .int (nI nf), .ref ase, .ref aco, .ref aen, .int (nI mem), .int (nI kd), .int (nI sl), .ref aor, .ref aba, .int (nI fi), .ref ali, .ref ale, .ref ach, .ref ast, .ref atw, .ref ats, .int (nI tp), .int (nI th)]), (aor, zI G 12 (fun j => nI (Od j))), (aba, zI G 12 (fun j => nI (Bg j))), (ali, zI G 12 (fun j => nI (Li j)))] sz) := by
  refine z_metWv (by decide) (Nat.le_of_ble_eq_true rfl) (fun p e s m args below meth c ls A Q Sf hnm w hl hret => ?_)
  obtain ⟨H, hH⟩ : ∃ H, H = s.heap := ⟨_, rfl⟩
  obtain ⟨locs, hlo⟩ : ∃ L : List Loc, L = [] := ⟨_, rfl⟩
  rw [← hH, ← hlo] at w
  rw [← hH, ← hlo]
  clear hH hlo
  have Sf : CallFix p m c cMo_takeOut 5 s args zT RMo := Sf
  have hx := Sf.1
  have hb := Sf.2.1
  have hown := Sf.2.2.2.1
  have hts := Sf.2.2.2.2
  have hl : lv_has ls 5 [(0, .ref m0), (1, .int (nI x)), (2, .int (nI i))] := hl
  refine lv_aload_n hx hb dMo_takeOut_0 rfl (lv_at hl 0 rfl) ?_
  refine gf_Mo_28 Sf w.1 0 rfl rfl dMo_takeOut_1 ?_
  refine lv_iload_n hx hb dMo_takeOut_4 rfl (lv_at hl 2 rfl) ?_
  refine lv_iload_n hx hb dMo_takeOut_5 rfl (lv_at hl 1 rfl) ?_
  refine z_iastN hx hb w 1 (k := i) rfl (by omega) (by omega) (ws' := [(m0, zO 7 [.int (nI n), .ref av, .ref ab, .ref apl, .int (nI stt), .int (nI nf), .ref ase, .ref aco, .ref aen, .int (nI mem), .int (nI kd), .int (nI sl), .ref aor, .ref aba, .int (nI fi), .ref ali, .ref ale, .ref ach, .ref ast, .ref atw, .ref ats, .int (nI tp), .int (nI th)]), (aor, zI G 12 (fun j => nI ((va_up Od i x) j))), (aba, zI G 12 (fun j => nI (Bg j))), (ali, zI G 12 (fun j => nI (Li j)))]) rfl dMo_takeOut_6 (fun H locs w => ?_)
  refine lv_aload_n hx hb dMo_takeOut_7 rfl (lv_at hl 0 rfl) ?_
  refine gf_Mo_31 Sf w.1 0 rfl rfl dMo_takeOut_8 ?_
  refine lv_iload_n hx hb dMo_takeOut_11 rfl (lv_at hl 2 rfl) ?_
  refine lv_aload_n hx hb dMo_takeOut_12 rfl (lv_at hl 0 rfl) ?_
  refine gf_Mo_34 Sf w.1 0 rfl rfl dMo_takeOut_13 ?_
  refine lv_iload_n hx hb dMo_takeOut_16 rfl (lv_at hl 1 rfl) ?_
  refine z_iald hx hb w.1 3 (k := x) rfl (by omega) (by omega) dMo_takeOut_17 ?_
  refine lv_iconst (v := (nI 1)) hx hb dMo_takeOut_18 (by decide) ?_
  refine lv_iload_n hx hb dMo_takeOut_19 rfl (lv_at hl 1 rfl) ?_
  refine z_shl1 hx hb (by omega) dMo_takeOut_20 ?_
  refine z_orN hx hb dMo_takeOut_21 ?_
  refine z_iastN hx hb w 2 (k := i) rfl (by omega) (by omega) (ws' := [(m0, zO 7 [.int (nI n), .ref av, .ref ab, .ref apl, .int (nI stt), .int (nI nf), .ref ase, .ref aco, .ref aen, .int (nI mem), .int (nI kd), .int (nI sl), .ref aor, .ref aba, .int (nI fi), .ref ali, .ref ale, .ref ach, .ref ast, .ref atw, .ref ats, .int (nI tp), .int (nI th)]), (aor, zI G 12 (fun j => nI ((va_up Od i x) j))), (aba, zI G 12 (fun j => nI ((va_up Bg i ((Li x) ||| (2 ^ x))) j))), (ali, zI G 12 (fun j => nI (Li j)))]) rfl dMo_takeOut_22 (fun H locs w => ?_)
  refine lv_aload_n hx hb dMo_takeOut_23 rfl (lv_at hl 0 rfl) ?_
  refine lv_dup hx hb dMo_takeOut_24 rfl ?_
  refine gf_Mo_113 Sf w.1 0 rfl rfl dMo_takeOut_25 ?_
  refine lv_aload_n hx hb dMo_takeOut_28 rfl (lv_at hl 0 rfl) ?_
  refine lv_iload_n hx hb dMo_takeOut_29 rfl (lv_at hl 1 rfl) ?_
  refine z_rV (As := [.int (nI x)]) (rest := [.int (nI fi), .ref m0]) Sf (c_Mo_fill l G m0 av ab apl ase aco aen aor aba ali ale ach ast atw ats n stt nf mem kd sl fi tp th Li x (by first | assumption | omega) (by first | assumption | omega) (by first | assumption | omega)) mv_Mo_116 ⟨rfl, rfl⟩ ⟨Nat.le_of_ble_eq_true rfl, Nat.le_of_ble_eq_true rfl⟩ w.1 [0, 3] rfl 0 rfl rfl rfl rfl hl.1 rfl (Nat.le_of_ble_eq_true rfl) dMo_takeOut_30 ⟨Nat.le_of_ble_eq_true rfl, Nat.le_of_ble_eq_true rfl⟩ ?_
  refine z_addN hx hb dMo_takeOut_33 ?_
  refine pf_Mo_113 Sf w 0 rfl rfl rfl (Nat.le_of_ble_eq_true rfl) (ws' := [(m0, zO 7 [.int (nI n), .ref av, .ref ab, .ref apl, .int (nI stt), .int (nI nf), .ref ase, .ref aco, .ref aen, .int (nI mem), .int (nI kd), .int (nI sl), .ref aor, .ref aba, .int (nI (fi + (filF Li x n))), .ref ali, .ref ale, .ref ach, .ref ast, .ref atw, .ref ats, .int (nI tp), .int (nI th)]), (aor, zI G 12 (fun j => nI ((va_up Od i x) j))), (aba, zI G 12 (fun j => nI ((va_up Bg i ((Li x) ||| (2 ^ x))) j))), (ali, zI G 12 (fun j => nI (Li j)))]) rfl dMo_takeOut_34 (fun H locs w => ?_)
  refine lv_aload_n hx hb dMo_takeOut_37 rfl (lv_at hl 0 rfl) ?_
  refine gf_Mo_34 Sf w.1 0 rfl rfl dMo_takeOut_38 ?_
  refine lv_iload_n hx hb dMo_takeOut_41 rfl (lv_at hl 1 rfl) ?_
  refine z_iald hx hb w.1 3 (k := x) rfl (by omega) (by omega) dMo_takeOut_42 ?_
  refine lv_istore_n (lv' := [(3, .int (nI (Li x))), (0, .ref m0), (1, .int (nI x)), (2, .int (nI i))]) hx hb dMo_takeOut_43 rfl hl (by decide) rfl (fun ls hl => ?_)
  refine lv_iconst (v := (nI 0)) hx hb dMo_takeOut_44 (by decide) ?_
  refine lv_istore (lv' := [(4, .int (nI 0)), (3, .int (nI (Li x))), (0, .ref m0), (1, .int (nI x)), (2, .int (nI i))]) hx hb dMo_takeOut_45 hl (by decide) rfl (fun ls hl => ?_)
  have L47 : ∀ (fu47 : Nat) (b : Nat) (F : Nat → Nat), (b ≤ n) → (F = rowF Li (toB Li x) b) → (n - b) < fu47 → ∀ (H : Heap) (locs : List Loc), zw G A s [(m0, zO 7 [.int (nI n), .ref av, .ref ab, .ref apl, .int (nI stt), .int (nI nf), .ref ase, .ref aco, .ref aen, .int (nI mem), .int (nI kd), .int (nI sl), .ref aor, .ref aba, .int (nI (fi + filF Li x n)), .ref ali, .ref ale, .ref ach, .ref ast, .ref atw, .ref ats, .int (nI tp), .int (nI th)]), (aor, zI G 12 (fun j => nI ((va_up Od i x) j))), (aba, zI G 12 (fun j => nI ((va_up Bg i (Li x ||| 2 ^ x)) j))), (ali, zI G 12 (fun j => nI (F j)))] H locs → ∀ (ls : Array Slot), lv_has ls 5 [(4, .int (nI b)), (3, .int (nI (Li x))), (0, .ref m0), (1, .int (nI x)), (2, .int (nI i))] → W p l e rm_Mo_takeOut s m args below meth c H locs 0 0 Q (F0 m 47 ls []) := by
    intro fu47
    induction fu47 with
    | zero =>
      intro b F hb0 hF hm47
      exact absurd hm47 (Nat.not_lt_zero _)
    | succ fu47 ih47 =>
      intro b F hb0 hF hm47 H locs w ls hl
      refine lv_iload hx hb dMo_takeOut_47 (lv_at hl 0 rfl) ?_
      refine lv_aload_n hx hb dMo_takeOut_49 rfl (lv_at hl 2 rfl) ?_
      refine gf_Mo_68 Sf w.1 0 rfl rfl dMo_takeOut_50 ?_
      refine z_icmpge (tgt := 101) hx hb (by omega) (by omega) dMo_takeOut_53 (by decide) (fun c53 => ?_) (fun c53 => ?_)
      · skip
        refine lv_aload_n hx hb dMo_takeOut_101 rfl (lv_at hl 2 rfl) ?_
        refine gf_Mo_34 Sf w.1 0 rfl rfl dMo_takeOut_102 ?_
        refine lv_iload_n hx hb dMo_takeOut_105 rfl (lv_at hl 3 rfl) ?_
        refine lv_iconst (v := (nI 0)) hx hb dMo_takeOut_106 (by decide) ?_
        refine z_iastN hx hb w 3 (k := x) rfl (by omega) (by omega) (ws' := [(m0, zO 7 [.int (nI n), .ref av, .ref ab, .ref apl, .int (nI stt), .int (nI nf), .ref ase, .ref aco, .ref aen, .int (nI mem), .int (nI kd), .int (nI sl), .ref aor, .ref aba, .int (nI (fi + filF Li x n)), .ref ali, .ref ale, .ref ach, .ref ast, .ref atw, .ref ats, .int (nI tp), .int (nI th)]), (aor, zI G 12 (fun j => nI ((va_up Od i x) j))), (aba, zI G 12 (fun j => nI ((va_up Bg i (Li x ||| 2 ^ x)) j))), (ali, zI G 12 (fun j => nI ((va_up F x 0) j)))]) rfl dMo_takeOut_107 (fun H locs w => ?_)
        exact hret _ _ _ _ () _ w (by rw [hF, show b = n by omega]; rfl) (trivial) dMo_takeOut_108 rfl
      · skip
        refine lv_iload_n hx hb dMo_takeOut_56 rfl (lv_at hl 1 rfl) ?_
        refine lv_iload hx hb dMo_takeOut_57 (lv_at hl 0 rfl) ?_
        refine z_shrN hx hb (Nat.lt_trans (hLi _) (by decide)) (by omega) dMo_takeOut_59 ?_
        refine lv_iconst (v := (nI 1)) hx hb dMo_takeOut_60 (by decide) ?_
        refine z_and1 hx hb dMo_takeOut_61 ?_
        refine lv_iconst (v := (nI 1)) hx hb dMo_takeOut_62 (by decide) ?_
        refine z_icmpneSB (tgt := 95) hx hb dMo_takeOut_63 (by decide) (fun c63 => ?_) (fun c63 => ?_)
        · skip
          refine z_iinc (d := 1) (lv' := [(4, .int (nI (b + 1))), (3, .int (nI (Li x))), (0, .ref m0), (1, .int (nI x)), (2, .int (nI i))]) hx hb dMo_takeOut_95 hl (k := 0) rfl (by decide) (by decide) rfl (fun ls hl => ?_)
          refine lv_goto (tgt := 47) hx hb dMo_takeOut_98 (by decide) ?_
          refine ih47 (b + 1) F ?_ ?_ ?_ _ _ w ls (lv_sub hl [0, 1, 2, 3, 4] rfl)
          · omega
          · first | (rw [hF, rowF_ge (Nat.le_refl b), ← rowF_s]; unfold toB; rw [if_pos c63]) | (rw [hF, rowF_skip]; unfold toB; rw [if_neg (by rw [c63]; decide)])
          · omega
        · skip
          refine lv_aload_n hx hb dMo_takeOut_66 rfl (lv_at hl 2 rfl) ?_
          refine gf_Mo_34 Sf w.1 0 rfl rfl dMo_takeOut_67 ?_
          refine lv_iload hx hb dMo_takeOut_70 (lv_at hl 0 rfl) ?_
          refine lv_aload_n hx hb dMo_takeOut_72 rfl (lv_at hl 2 rfl) ?_
          refine gf_Mo_34 Sf w.1 0 rfl rfl dMo_takeOut_73 ?_
          refine lv_iload hx hb dMo_takeOut_76 (lv_at hl 0 rfl) ?_
          refine z_iald hx hb w.1 3 (k := b) rfl (by omega) (by omega) dMo_takeOut_78 ?_
          refine lv_iload_n hx hb dMo_takeOut_79 rfl (lv_at hl 1 rfl) ?_
          refine z_orN hx hb dMo_takeOut_80 ?_
          refine lv_iconst (v := (nI 1)) hx hb dMo_takeOut_81 (by decide) ?_
          refine lv_iload hx hb dMo_takeOut_82 (lv_at hl 0 rfl) ?_
          refine z_shl1 hx hb (by omega) dMo_takeOut_84 ?_
          refine lv_iconst (v := (-1)) hx hb dMo_takeOut_85 (by decide) ?_
          refine lv_ixor hx hb dMo_takeOut_86 ?_
          refine z_andC hx hb dMo_takeOut_87 ?_
          refine lv_iconst (v := (nI 1)) hx hb dMo_takeOut_88 (by decide) ?_
          refine lv_iload_n hx hb dMo_takeOut_89 rfl (lv_at hl 3 rfl) ?_
          refine z_shl1 hx hb (by omega) dMo_takeOut_90 ?_
          refine lv_iconst (v := (-1)) hx hb dMo_takeOut_91 (by decide) ?_
          refine lv_ixor hx hb dMo_takeOut_92 ?_
          refine z_andC hx hb dMo_takeOut_93 ?_
          refine z_iastN hx hb w 3 (k := b) rfl (by omega) (by omega) (ws' := [(m0, zO 7 [.int (nI n), .ref av, .ref ab, .ref apl, .int (nI stt), .int (nI nf), .ref ase, .ref aco, .ref aen, .int (nI mem), .int (nI kd), .int (nI sl), .ref aor, .ref aba, .int (nI (fi + filF Li x n)), .ref ali, .ref ale, .ref ach, .ref ast, .ref atw, .ref ats, .int (nI tp), .int (nI th)]), (aor, zI G 12 (fun j => nI ((va_up Od i x) j))), (aba, zI G 12 (fun j => nI ((va_up Bg i (Li x ||| 2 ^ x)) j))), (ali, zI G 12 (fun j => nI ((va_up F b (sdf (sdf ((F b) ||| (Li x)) (2 ^ b)) (2 ^ x))) j)))]) rfl dMo_takeOut_94 (fun H locs w => ?_)
          refine z_iinc (d := 1) (lv' := [(4, .int (nI (b + 1))), (3, .int (nI (Li x))), (0, .ref m0), (1, .int (nI x)), (2, .int (nI i))]) hx hb dMo_takeOut_95 hl (k := 0) rfl (by decide) (by decide) rfl (fun ls hl => ?_)
          refine lv_goto (tgt := 47) hx hb dMo_takeOut_98 (by decide) ?_
          refine ih47 (b + 1) (va_up F b (sdf (sdf ((F b) ||| (Li x)) (2 ^ b)) (2 ^ x))) ?_ ?_ ?_ _ _ w ls (lv_sub hl [0, 1, 2, 3, 4] rfl)
          · omega
          · first | (rw [hF, rowF_ge (Nat.le_refl b), ← rowF_s]; unfold toB; rw [if_pos c63]) | (rw [hF, rowF_skip]; unfold toB; rw [if_neg (by rw [c63]; decide)])
          · omega
  refine L47 ((n - 0) + 1) 0 Li ?_ ?_ ?_ _ _ w ls (lv_sub hl [0, 1, 2, 3, 4] rfl)
  · omega
  · exact (rowF_0 _ _).symm
  · exact Nat.lt_succ_self _
