def rm_Graph_quotient : Room := { frames := 0, cells := 0, slots := 0, locals := 0 }
set_option maxHeartbeats 4000000 in
set_option maxRecDepth 100000 in
theorem c_Graph_quotient (l : Launch) (G : zG) (a b : Nat) (ha : a < 2 ^ 31) (hb0 : 0 < b) (hbb : b < 2 ^ 31) : Met l yGr_quotient (.code yGr_quotient cGr_quotient 2 (some .int) :: zT) rm_Graph_quotient (zPr G [.int (nI a), .int (nI b)] []) (k2_QcV (.int (nI (a / b)))) 0 0 (fun _ => False) := by
  refine z_metRi (by decide) (Nat.le_of_ble_eq_true rfl) (fun p e s m args below meth c ls Q Sf r hl hret => ?_)
  have Sf : CallFix p m c cGr_quotient 2 s args zT RGr := Sf
  have hx := Sf.1
  have hb := Sf.2.1
  have hown := Sf.2.2.2.1
  have hts := Sf.2.2.2.2
  have hl : lv_has ls 2 [(0, .int (nI a)), (1, .int (nI b))] := hl
  refine lv_iload_n hx hb dGr_quotient_0 rfl (lv_at hl 1 rfl) ?_
  refine z_ifleN (tgt := 10) hx hb hbb dGr_quotient_1 (by decide) (fun c1 => ?_) (fun c1 => ?_)
  · skip
    exact absurd c1 (by omega)
  · skip
    refine lv_iload_n hx hb dGr_quotient_4 rfl (lv_at hl 0 rfl) ?_
    refine lv_iload_n hx hb dGr_quotient_5 rfl (lv_at hl 1 rfl) ?_
    refine z_divN hx hb ha hb0 hbb dGr_quotient_6 ?_
    refine lv_goto (tgt := 11) hx hb dGr_quotient_7 (by decide) ?_
    exact hret _ _ _ dGr_quotient_11 (rfl)

def rm_Graph_remainder : Room := { frames := 0, cells := 0, slots := 0, locals := 0 }
set_option maxHeartbeats 4000000 in
set_option maxRecDepth 100000 in
theorem c_Graph_remainder (l : Launch) (G : zG) (a b : Nat) (ha : a < 2 ^ 31) (hb0 : 0 < b) (hbb : b < 2 ^ 31) : Met l yGr_remainder (.code yGr_remainder cGr_remainder 2 (some .int) :: zT) rm_Graph_remainder (zPr G [.int (nI a), .int (nI b)] []) (k2_QcV (.int (nI (a % b)))) 0 0 (fun _ => False) := by
  refine z_metRi (by decide) (Nat.le_of_ble_eq_true rfl) (fun p e s m args below meth c ls Q Sf r hl hret => ?_)
  have Sf : CallFix p m c cGr_remainder 2 s args zT RGr := Sf
  have hx := Sf.1
  have hb := Sf.2.1
  have hown := Sf.2.2.2.1
  have hts := Sf.2.2.2.2
  have hl : lv_has ls 2 [(0, .int (nI a)), (1, .int (nI b))] := hl
  refine lv_iload_n hx hb dGr_remainder_0 rfl (lv_at hl 1 rfl) ?_
  refine z_ifleN (tgt := 10) hx hb hbb dGr_remainder_1 (by decide) (fun c1 => ?_) (fun c1 => ?_)
  · skip
    exact absurd c1 (by omega)
  · skip
    refine lv_iload_n hx hb dGr_remainder_4 rfl (lv_at hl 0 rfl) ?_
    refine lv_iload_n hx hb dGr_remainder_5 rfl (lv_at hl 1 rfl) ?_
    refine z_remN hx hb ha hb0 hbb dGr_remainder_6 ?_
    refine lv_goto (tgt := 11) hx hb dGr_remainder_7 (by decide) ?_
    exact hret _ _ _ dGr_remainder_11 (rfl)

def rm_Graph_knows : Room := { frames := 0, cells := 0, slots := 0, locals := 0 }
set_option maxHeartbeats 4000000 in
set_option maxRecDepth 100000 in
theorem c_Graph_knows (l : Launch) (G : zG) (g av an : Nat) (n : Nat) (st : Int32) (x : Int32)  : Met l yGr_knows (.code yGr_knows cGr_knows 2 (some .boolean) :: zT) rm_Graph_knows (zPr G [.ref g, .int x] [(g, zO 2 [.ref av, .ref an, .int (nI n), .int st])]) (k2_QcV (.int (bI (knP x n)))) 0 0 (fun _ => False) := by
  refine z_metRz (by decide) (Nat.le_of_ble_eq_true rfl) (fun p e s m args below meth c ls Q Sf r hl hret => ?_)
  have Sf : CallFix p m c cGr_knows 2 s args zT RGr := Sf
  have hx := Sf.1
  have hb := Sf.2.1
  have hown := Sf.2.2.2.1
  have hts := Sf.2.2.2.2
  have hl : lv_has ls 2 [(0, .ref g), (1, .int x)] := hl
  refine lv_iload_n hx hb dGr_knows_0 rfl (lv_at hl 1 rfl) ?_
  refine lv_if_lt (tgt := 16) hx hb dGr_knows_1 (by decide) (fun c1 => ?_) (fun c1 => ?_)
  · skip
    refine lv_iconst (v := (nI 0)) hx hb dGr_knows_16 (by decide) ?_
    exact hret _ _ _ dGr_knows_17 (bI_f (fun h => by first | exact h.1 c1 | exact h.2 c9))
  · skip
    refine lv_iload_n hx hb dGr_knows_4 rfl (lv_at hl 1 rfl) ?_
    refine lv_aload_n hx hb dGr_knows_5 rfl (lv_at hl 0 rfl) ?_
    refine gf_Gr_22 Sf r 0 rfl rfl dGr_knows_6 ?_
    refine lv_icmp_ge (tgt := 16) hx hb dGr_knows_9 (by decide) (fun c9 => ?_) (fun c9 => ?_)
    · skip
      refine lv_iconst (v := (nI 0)) hx hb dGr_knows_16 (by decide) ?_
      exact hret _ _ _ dGr_knows_17 (bI_f (fun h => by first | exact h.1 c1 | exact h.2 c9))
    · skip
      refine lv_iconst (v := (nI 1)) hx hb dGr_knows_12 (by decide) ?_
      refine lv_goto (tgt := 17) hx hb dGr_knows_13 (by decide) ?_
      exact hret _ _ _ dGr_knows_17 (bI_t ⟨c1, c9⟩)

def rm_Graph_knowsAll : Room := { frames := 0, cells := 0, slots := 0, locals := 0 }
set_option maxHeartbeats 4000000 in
set_option maxRecDepth 100000 in
theorem c_Graph_knowsAll (l : Launch) (G : zG) (g av an : Nat) (n : Nat) (st : Int32) (x : Int32)  : Met l yGr_knowsAll (.code yGr_knowsAll cGr_knowsAll 2 (some .boolean) :: zT) rm_Graph_knowsAll (zPr G [.ref g, .int x] [(g, zO 2 [.ref av, .ref an, .int (nI n), .int st])]) (k2_QcV (.int (bI (kaP x n)))) 0 0 (fun _ => False) := by
  refine z_metRz (by decide) (Nat.le_of_ble_eq_true rfl) (fun p e s m args below meth c ls Q Sf r hl hret => ?_)
  have Sf : CallFix p m c cGr_knowsAll 2 s args zT RGr := Sf
  have hx := Sf.1
  have hb := Sf.2.1
  have hown := Sf.2.2.2.1
  have hts := Sf.2.2.2.2
  have hl : lv_has ls 2 [(0, .ref g), (1, .int x)] := hl
  refine lv_iload_n hx hb dGr_knowsAll_0 rfl (lv_at hl 1 rfl) ?_
  refine lv_if_lt (tgt := 17) hx hb dGr_knowsAll_1 (by decide) (fun c1 => ?_) (fun c1 => ?_)
  · skip
    refine lv_iconst (v := (nI 0)) hx hb dGr_knowsAll_17 (by decide) ?_
    exact hret _ _ _ dGr_knowsAll_18 (bI_f (fun h => by first | exact h.1 c1 | exact c10 h.2))
  · skip
    refine lv_iload_n hx hb dGr_knowsAll_4 rfl (lv_at hl 1 rfl) ?_
    refine lv_aload_n hx hb dGr_knowsAll_5 rfl (lv_at hl 0 rfl) ?_
    refine gf_Gr_22 Sf r 0 rfl rfl dGr_knowsAll_6 ?_
    refine lv_ishr hx hb dGr_knowsAll_9 ?_
    refine lv_if_ne (tgt := 17) hx hb dGr_knowsAll_10 (by decide) (fun c10 => ?_) (fun c10 => ?_)
    · skip
      refine lv_iconst (v := (nI 0)) hx hb dGr_knowsAll_17 (by decide) ?_
      exact hret _ _ _ dGr_knowsAll_18 (bI_f (fun h => by first | exact h.1 c1 | exact c10 h.2))
    · skip
      refine lv_iconst (v := (nI 1)) hx hb dGr_knowsAll_13 (by decide) ?_
      refine lv_goto (tgt := 18) hx hb dGr_knowsAll_14 (by decide) ?_
      exact hret _ _ _ dGr_knowsAll_18 (bI_t ⟨c1, c10⟩)

def rm_Graph_hasValue : Room := { frames := 0, cells := 0, slots := 0, locals := 0 }
set_option maxHeartbeats 4000000 in
set_option maxRecDepth 100000 in
theorem c_Graph_hasValue (l : Launch) (G : zG) (g av an : Nat) (n : Nat) (st : Int32) (V : Nat → Nat) (k : Nat) (x : Int32) (hk : k < 12) : Met l yGr_hasValue (.code yGr_hasValue cGr_hasValue 3 (some .boolean) :: zT) rm_Graph_hasValue (zPr G [.ref g, .int (nI k), .int x] [(g, zO 2 [.ref av, .ref an, .int (nI n), .int st]), (av, zI G 12 (fun j => nI (V j)))]) (k2_QcV (.int (bI (knP x (V k))))) 0 0 (fun _ => False) := by
  refine z_metRz (by decide) (Nat.le_of_ble_eq_true rfl) (fun p e s m args below meth c ls Q Sf r hl hret => ?_)
  have Sf : CallFix p m c cGr_hasValue 3 s args zT RGr := Sf
  have hx := Sf.1
  have hb := Sf.2.1
  have hown := Sf.2.2.2.1
  have hts := Sf.2.2.2.2
  have hl : lv_has ls 3 [(0, .ref g), (1, .int (nI k)), (2, .int x)] := hl
  refine lv_iload_n hx hb dGr_hasValue_0 rfl (lv_at hl 2 rfl) ?_
  refine lv_if_lt (tgt := 18) hx hb dGr_hasValue_1 (by decide) (fun c1 => ?_) (fun c1 => ?_)
  · skip
    refine lv_iconst (v := (nI 0)) hx hb dGr_hasValue_18 (by decide) ?_
    exact hret _ _ _ dGr_hasValue_19 (bI_f (fun h => by first | exact h.1 c1 | exact h.2 c11))
  · skip
    refine lv_iload_n hx hb dGr_hasValue_4 rfl (lv_at hl 2 rfl) ?_
    refine lv_aload_n hx hb dGr_hasValue_5 rfl (lv_at hl 0 rfl) ?_
    refine gf_Gr_9 Sf r 0 rfl rfl dGr_hasValue_6 ?_
    refine lv_iload_n hx hb dGr_hasValue_9 rfl (lv_at hl 1 rfl) ?_
    refine z_iald hx hb r 1 (k := k) rfl (by omega) (by omega) dGr_hasValue_10 ?_
    refine lv_icmp_ge (tgt := 18) hx hb dGr_hasValue_11 (by decide) (fun c11 => ?_) (fun c11 => ?_)
    · skip
      refine lv_iconst (v := (nI 0)) hx hb dGr_hasValue_18 (by decide) ?_
      exact hret _ _ _ dGr_hasValue_19 (bI_f (fun h => by first | exact h.1 c1 | exact h.2 c11))
    · skip
      refine lv_iconst (v := (nI 1)) hx hb dGr_hasValue_14 (by decide) ?_
      refine lv_goto (tgt := 19) hx hb dGr_hasValue_15 (by decide) ?_
      exact hret _ _ _ dGr_hasValue_19 (bI_t ⟨c1, c11⟩)

def rm_Graph_everyName : Room := { frames := 0, cells := 0, slots := 0, locals := 0 }
set_option maxHeartbeats 4000000 in
set_option maxRecDepth 100000 in
theorem c_Graph_everyName (l : Launch) (G : zG) (g av an : Nat) (n : Nat) (st : Int32) (hn : n ≤ 12) : Met l yGr_everyName (.code yGr_everyName cGr_everyName 1 (some .int) :: zT) rm_Graph_everyName (zPr G [.ref g] [(g, zO 2 [.ref av, .ref an, .int (nI n), .int st])]) (k2_QcV (.int (nI (2 ^ n - 1)))) 0 0 (fun _ => False) := by
  refine z_metRi (by decide) (Nat.le_of_ble_eq_true rfl) (fun p e s m args below meth c ls Q Sf r hl hret => ?_)
  have Sf : CallFix p m c cGr_everyName 1 s args zT RGr := Sf
  have hx := Sf.1
  have hb := Sf.2.1
  have hown := Sf.2.2.2.1
  have hts := Sf.2.2.2.2
  have hl : lv_has ls 1 [(0, .ref g)] := hl
  refine lv_iconst (v := (nI 1)) hx hb dGr_everyName_0 (by decide) ?_
  refine lv_aload_n hx hb dGr_everyName_1 rfl (lv_at hl 0 rfl) ?_
  refine gf_Gr_22 Sf r 0 rfl rfl dGr_everyName_2 ?_
  refine z_shl1 hx hb (by omega) dGr_everyName_5 ?_
  refine lv_iconst (v := (nI 1)) hx hb dGr_everyName_6 (by decide) ?_
  refine z_subN hx hb Nat.one_le_two_pow dGr_everyName_7 ?_
  exact hret _ _ _ dGr_everyName_8 (rfl)

def rm_Graph_cellsOf : Room := { frames := 0, cells := 0, slots := 0, locals := 0 }
set_option maxHeartbeats 4000000 in
set_option maxRecDepth 100000 in
theorem c_Graph_cellsOf (l : Launch) (G : zG) (g av an : Nat) (n : Nat) (st : Int32) (V : Nat → Nat) (S : Nat) (hn : n ≤ 12) (hS : S < 2 ^ 31) : Met l yGr_cellsOf (.code yGr_cellsOf cGr_cellsOf 4 (some .int) :: zT) rm_Graph_cellsOf (zPr G [.ref g, .int (nI S)] [(g, zO 2 [.ref av, .ref an, .int (nI n), .int st]), (av, zI G 12 (fun j => nI (V j)))]) (k2_QcV (.int (nI (cellsF V S n)))) 0 0 (fun _ => False) := by
  refine z_metRi (by decide) (Nat.le_of_ble_eq_true rfl) (fun p e s m args below meth c ls Q Sf r hl hret => ?_)
  have Sf : CallFix p m c cGr_cellsOf 4 s args zT RGr := Sf
  have hx := Sf.1
  have hb := Sf.2.1
  have hown := Sf.2.2.2.1
  have hts := Sf.2.2.2.2
  have hl : lv_has ls 4 [(0, .ref g), (1, .int (nI S))] := hl
  refine lv_iconst (v := (nI 1)) hx hb dGr_cellsOf_0 (by decide) ?_
  refine lv_istore_n (lv' := [(2, .int (nI 1)), (0, .ref g), (1, .int (nI S))]) hx hb dGr_cellsOf_1 rfl hl (by decide) rfl (fun ls hl => ?_)
  refine lv_iconst (v := (nI 0)) hx hb dGr_cellsOf_2 (by decide) ?_
  refine lv_istore_n (lv' := [(3, .int (nI 0)), (2, .int (nI 1)), (0, .ref g), (1, .int (nI S))]) hx hb dGr_cellsOf_3 rfl hl (by decide) rfl (fun ls hl => ?_)
  have L4 : ∀ (fu4 : Nat) (i a : Nat), (i ≤ n) → (a = cellsF V S i) → (n - i) < fu4 → ∀ (ls : Array Slot), lv_has ls 4 [(3, .int (nI i)), (2, .int (nI a)), (0, .ref g), (1, .int (nI S))] → W p l e rm_Graph_cellsOf s m args below meth c s.heap [] 0 0 Q (F0 m 4 ls []) := by
    intro fu4
    induction fu4 with
    | zero =>
      intro i a hi ha hm4
      exact absurd hm4 (Nat.not_lt_zero _)
    | succ fu4 ih4 =>
      intro i a hi ha hm4 ls hl
      refine lv_iload_n hx hb dGr_cellsOf_4 rfl (lv_at hl 0 rfl) ?_
      refine lv_aload_n hx hb dGr_cellsOf_5 rfl (lv_at hl 2 rfl) ?_
      refine gf_Gr_22 Sf r 0 rfl rfl dGr_cellsOf_6 ?_
      refine z_icmpge (tgt := 35) hx hb (by omega) (by omega) dGr_cellsOf_9 (by decide) (fun c9 => ?_) (fun c9 => ?_)
      · skip
        refine lv_iload_n hx hb dGr_cellsOf_35 rfl (lv_at hl 1 rfl) ?_
        exact hret _ _ _ dGr_cellsOf_36 (by rw [ha, show i = n by omega])
      · skip
        refine lv_iload_n hx hb dGr_cellsOf_12 rfl (lv_at hl 3 rfl) ?_
        refine lv_iconst (v := (nI 1)) hx hb dGr_cellsOf_13 (by decide) ?_
        refine lv_iload_n hx hb dGr_cellsOf_14 rfl (lv_at hl 0 rfl) ?_
        refine z_shl1 hx hb (by omega) dGr_cellsOf_15 ?_
        refine z_andN hx hb dGr_cellsOf_16 ?_
        refine z_ifeqbit (tgt := 29) hx hb (by omega) dGr_cellsOf_17 (by decide) (fun c17 => ?_) (fun c17 => ?_)
        · skip
          refine z_iinc (d := 1) (lv' := [(3, .int (nI (i + 1))), (2, .int (nI a)), (0, .ref g), (1, .int (nI S))]) hx hb dGr_cellsOf_29 hl (k := 0) rfl (by decide) (by decide) rfl (fun ls hl => ?_)
          refine lv_goto (tgt := 4) hx hb dGr_cellsOf_32 (by decide) ?_
          refine ih4 (i + 1) _ ?_ ?_ ?_ ls (lv_sub hl [0, 1, 2, 3] rfl)
          · omega
          · first | (rw [cellsF_t c17, ha]) | (rw [cellsF_f c17, ha])
          · omega
        · skip
          refine lv_iload_n hx hb dGr_cellsOf_20 rfl (lv_at hl 1 rfl) ?_
          refine lv_aload_n hx hb dGr_cellsOf_21 rfl (lv_at hl 2 rfl) ?_
          refine gf_Gr_9 Sf r 0 rfl rfl dGr_cellsOf_22 ?_
          refine lv_iload_n hx hb dGr_cellsOf_25 rfl (lv_at hl 0 rfl) ?_
          refine z_iald hx hb r 1 (k := i) rfl (by omega) (by omega) dGr_cellsOf_26 ?_
          refine z_mulN hx hb dGr_cellsOf_27 ?_
          refine lv_istore_n (lv' := [(2, .int (nI (a * (V i)))), (3, .int (nI i)), (0, .ref g), (1, .int (nI S))]) hx hb dGr_cellsOf_28 rfl hl (by decide) rfl (fun ls hl => ?_)
          refine z_iinc (d := 1) (lv' := [(3, .int (nI (i + 1))), (2, .int (nI (a * (V i)))), (0, .ref g), (1, .int (nI S))]) hx hb dGr_cellsOf_29 hl (k := 1) rfl (by decide) (by decide) rfl (fun ls hl => ?_)
          refine lv_goto (tgt := 4) hx hb dGr_cellsOf_32 (by decide) ?_
          refine ih4 (i + 1) (a * (V i)) ?_ ?_ ?_ ls (lv_sub hl [0, 1, 2, 3] rfl)
          · omega
          · first | (rw [cellsF_t c17, ha]) | (rw [cellsF_f c17, ha])
          · omega
  refine L4 ((n - 0) + 1) 0 1 ?_ ?_ ?_ ls (lv_sub hl [0, 1, 2, 3] rfl)
  · omega
  · rfl
  · exact Nat.lt_succ_self _

def rm_Graph_pairs : Room := { frames := 1, cells := 0, slots := 0, locals := 40 }
set_option maxHeartbeats 4000000 in
set_option maxRecDepth 100000 in
theorem c_Graph_pairs (l : Launch) (G : zG) (g av an : Nat) (n : Nat) (st : Int32) (Nb : Nat → Nat) (hn : n ≤ 12) (hN : ∀ i, Nb i < 4096) : Met l yGr_pairs (.code yGr_pairs cGr_pairs 3 (some .int) :: zT) rm_Graph_pairs (zPr G [.ref g] [(g, zO 2 [.ref av, .ref an, .int (nI n), .int st]), (an, zI G 12 (fun j => nI (Nb j)))]) (k2_QcV (.int (nI (popS Nb n / 2)))) 0 0 (fun _ => False) := by
  refine z_metRi (by decide) (Nat.le_of_ble_eq_true rfl) (fun p e s m args below meth c ls Q Sf r hl hret => ?_)
  have Sf : CallFix p m c cGr_pairs 3 s args zT RGr := Sf
  have hx := Sf.1
  have hb := Sf.2.1
  have hown := Sf.2.2.2.1
  have hts := Sf.2.2.2.2
  have hl : lv_has ls 3 [(0, .ref g)] := hl
  refine lv_iconst (v := (nI 0)) hx hb dGr_pairs_0 (by decide) ?_
  refine lv_istore_n (lv' := [(1, .int (nI 0)), (0, .ref g)]) hx hb dGr_pairs_1 rfl hl (by decide) rfl (fun ls hl => ?_)
  refine lv_iconst (v := (nI 0)) hx hb dGr_pairs_2 (by decide) ?_
  refine lv_istore_n (lv' := [(2, .int (nI 0)), (1, .int (nI 0)), (0, .ref g)]) hx hb dGr_pairs_3 rfl hl (by decide) rfl (fun ls hl => ?_)
  have L4 : ∀ (fu4 : Nat) (i a : Nat), (i ≤ n) → (a = popS Nb i) → (n - i) < fu4 → ∀ (ls : Array Slot), lv_has ls 3 [(2, .int (nI i)), (1, .int (nI a)), (0, .ref g)] → W p l e rm_Graph_pairs s m args below meth c s.heap [] 0 0 Q (F0 m 4 ls []) := by
    intro fu4
    induction fu4 with
    | zero =>
      intro i a hi ha hm4
      exact absurd hm4 (Nat.not_lt_zero _)
    | succ fu4 ih4 =>
      intro i a hi ha hm4 ls hl
      refine lv_iload_n hx hb dGr_pairs_4 rfl (lv_at hl 0 rfl) ?_
      refine lv_aload_n hx hb dGr_pairs_5 rfl (lv_at hl 2 rfl) ?_
      refine gf_Gr_22 Sf r 0 rfl rfl dGr_pairs_6 ?_
      refine z_icmpge (tgt := 30) hx hb (by omega) (by omega) dGr_pairs_9 (by decide) (fun c9 => ?_) (fun c9 => ?_)
      · skip
        refine lv_iload_n hx hb dGr_pairs_30 rfl (lv_at hl 1 rfl) ?_
        refine lv_iconst (v := (nI 2)) hx hb dGr_pairs_31 (by decide) ?_
        refine z_divN hx hb (by have := popS_le hN i; omega) (by omega) (by omega) dGr_pairs_32 ?_
        exact hret _ _ _ dGr_pairs_33 (by rw [ha, show i = n by omega])
      · skip
        refine lv_iload_n hx hb dGr_pairs_12 rfl (lv_at hl 1 rfl) ?_
        refine lv_aload_n hx hb dGr_pairs_13 rfl (lv_at hl 2 rfl) ?_
        refine gf_Gr_15 Sf r 0 rfl rfl dGr_pairs_14 ?_
        refine lv_iload_n hx hb dGr_pairs_17 rfl (lv_at hl 0 rfl) ?_
        refine z_iald hx hb r 1 (k := i) rfl (by omega) (by omega) dGr_pairs_18 ?_
        refine z_rS (As := [.int (nI (Nb i))]) (rest := [.int (nI a)]) Sf (c_bitCount l G (Nb i) (hN i)) mv_Gr_25 ⟨rfl, rfl⟩ ⟨Nat.le_of_ble_eq_true rfl, Nat.le_of_ble_eq_true rfl⟩ r [] rfl rfl hl.1 rfl (Nat.le_of_ble_eq_true rfl) dGr_pairs_19 ⟨Nat.le_of_ble_eq_true rfl, Nat.le_of_ble_eq_true rfl⟩ ?_
        refine z_addN hx hb dGr_pairs_22 ?_
        refine lv_istore_n (lv' := [(1, .int (nI (a + (popc (Nb i))))), (2, .int (nI i)), (0, .ref g)]) hx hb dGr_pairs_23 rfl hl (by decide) rfl (fun ls hl => ?_)
        refine z_iinc (d := 1) (lv' := [(2, .int (nI (i + 1))), (1, .int (nI (a + (popc (Nb i))))), (0, .ref g)]) hx hb dGr_pairs_24 hl (k := 1) rfl (by decide) (by decide) rfl (fun ls hl => ?_)
        refine lv_goto (tgt := 4) hx hb dGr_pairs_27 (by decide) ?_
        refine ih4 (i + 1) (a + (popc (Nb i))) ?_ ?_ ?_ ls (lv_sub hl [0, 1, 2] rfl)
        · omega
        · rw [ha]; rfl
        · omega
  refine L4 ((n - 0) + 1) 0 0 ?_ ?_ ?_ ls (lv_sub hl [0, 1, 2] rfl)
  · omega
  · rfl
  · exact Nat.lt_succ_self _

def rm_Graph_reached : Room := { frames := 1, cells := 0, slots := 0, locals := 40 }
set_option maxHeartbeats 4000000 in
set_option maxRecDepth 100000 in
theorem c_Graph_reached (l : Launch) (G : zG) (g av an : Nat) (n : Nat) (st : Int32) (Nb : Nat → Nat) (f I : Nat) (hn : n ≤ 12) (hf : f < n) (hN : ∀ i, Nb i < 4096) : Met l yGr_reached (.code yGr_reached cGr_reached 8 (some .int) :: zT) rm_Graph_reached (zPr G [.ref g, .int (nI f), .int (nI I)] [(g, zO 2 [.ref av, .ref an, .int (nI n), .int st]), (an, zI G 12 (fun j => nI (Nb j)))]) (k2_QcV (.int (nI (rchF Nb n f I)))) 0 0 (fun _ => False) := by
  refine z_metRi (by decide) (Nat.le_of_ble_eq_true rfl) (fun p e s m args below meth c ls Q Sf r hl hret => ?_)
  have Sf : CallFix p m c cGr_reached 8 s args zT RGr := Sf
  have hx := Sf.1
  have hb := Sf.2.1
  have hown := Sf.2.2.2.1
  have hts := Sf.2.2.2.2
  have hl : lv_has ls 8 [(0, .ref g), (1, .int (nI f)), (2, .int (nI I))] := hl
  refine lv_aload_n hx hb dGr_reached_0 rfl (lv_at hl 0 rfl) ?_
  refine gf_Gr_15 Sf r 0 rfl rfl dGr_reached_1 ?_
  refine lv_iload_n hx hb dGr_reached_4 rfl (lv_at hl 1 rfl) ?_
  refine z_iald hx hb r 1 (k := f) rfl (by omega) (by omega) dGr_reached_5 ?_
  refine lv_iconst (v := (nI 1)) hx hb dGr_reached_6 (by decide) ?_
  refine lv_iload_n hx hb dGr_reached_7 rfl (lv_at hl 1 rfl) ?_
  refine z_shl1 hx hb (by omega) dGr_reached_8 ?_
  refine z_orN hx hb dGr_reached_9 ?_
  refine lv_istore_n (lv' := [(3, .int (nI ((Nb f) ||| (2 ^ f)))), (0, .ref g), (1, .int (nI f)), (2, .int (nI I))]) hx hb dGr_reached_10 rfl hl (by decide) rfl (fun ls hl => ?_)
  refine lv_iconst (v := (nI 0)) hx hb dGr_reached_11 (by decide) ?_
  refine lv_istore (lv' := [(4, .int (nI 0)), (3, .int (nI ((Nb f) ||| (2 ^ f)))), (0, .ref g), (1, .int (nI f)), (2, .int (nI I))]) hx hb dGr_reached_12 hl (by decide) rfl (fun ls hl => ?_)
  refine lv_iconst (v := (nI 0)) hx hb dGr_reached_14 (by decide) ?_
  refine lv_istore (lv' := [(5, .int (nI 0)), (4, .int (nI 0)), (3, .int (nI ((Nb f) ||| (2 ^ f)))), (0, .ref g), (1, .int (nI f)), (2, .int (nI I))]) hx hb dGr_reached_15 hl (by decide) rfl (fun ls hl => ?_)
  have L17 : ∀ (fu17 : Nat) (k sn ps : Nat), (k ≤ n) → (sn < 4096) → (rchL Nb I (n - k) sn ps = rchF Nb n f I) → (n - k) < fu17 → ∀ (ls : Array Slot), lv_has ls 8 [(5, .int (nI k)), (4, .int (nI ps)), (3, .int (nI sn)), (0, .ref g), (1, .int (nI f)), (2, .int (nI I))] → W p l e rm_Graph_reached s m args below meth c s.heap [] 0 0 Q (F0 m 17 ls []) := by
    intro fu17
    induction fu17 with
    | zero =>
      intro k sn ps hk hs hr hm17
      exact absurd hm17 (Nat.not_lt_zero _)
    | succ fu17 ih17 =>
      intro k sn ps hk hs hr hm17 ls hl
      refine lv_iload hx hb dGr_reached_17 (lv_at hl 0 rfl) ?_
      refine lv_aload_n hx hb dGr_reached_19 rfl (lv_at hl 3 rfl) ?_
      refine gf_Gr_22 Sf r 0 rfl rfl dGr_reached_20 ?_
      refine z_icmpge (tgt := 82) hx hb (by omega) (by omega) dGr_reached_23 (by decide) (fun c23 => ?_) (fun c23 => ?_)
      · skip
        refine lv_iload_n hx hb dGr_reached_82 rfl (lv_at hl 2 rfl) ?_
        exact hret _ _ _ dGr_reached_83 (by first | (rw [← hr, show n - k = (n - (k + 1)) + 1 by omega, rchL_0 c38]) | (rw [← hr, show n - k = 0 by omega]; rfl))
      · skip
        refine lv_iload_n hx hb dGr_reached_26 rfl (lv_at hl 2 rfl) ?_
        refine lv_iload_n hx hb dGr_reached_27 rfl (lv_at hl 5 rfl) ?_
        refine z_andN hx hb dGr_reached_28 ?_
        refine lv_iload hx hb dGr_reached_29 (lv_at hl 1 rfl) ?_
        refine lv_iconst (v := (-1)) hx hb dGr_reached_31 (by decide) ?_
        refine lv_ixor hx hb dGr_reached_32 ?_
        refine z_andC hx hb dGr_reached_33 ?_
        refine lv_istore (lv' := [(6, .int (nI (sdf (sn &&& I) ps))), (5, .int (nI k)), (4, .int (nI ps)), (3, .int (nI sn)), (0, .ref g), (1, .int (nI f)), (2, .int (nI I))]) hx hb dGr_reached_34 hl (by decide) rfl (fun ls hl => ?_)
        refine lv_iload hx hb dGr_reached_36 (lv_at hl 0 rfl) ?_
        refine z_ifneN (tgt := 44) hx hb (Nat.lt_trans (Nat.lt_of_le_of_lt (sdf_le _ _) (Nat.lt_of_le_of_lt Nat.and_le_left hs)) (by decide)) dGr_reached_38 (by decide) (fun c38 => ?_) (fun c38 => ?_)
        · skip
          have ho : sdf (sn &&& I) ps < 4096 := Nat.lt_of_le_of_lt (sdf_le _ _) (Nat.lt_of_le_of_lt Nat.and_le_left hs)
          have hz := tz_lt _ ho (Nat.pos_of_ne_zero c38)
          refine lv_iload hx hb dGr_reached_44 (lv_at hl 0 rfl) ?_
          refine lv_iload hx hb dGr_reached_46 (lv_at hl 0 rfl) ?_
          refine lv_ineg hx hb dGr_reached_48 ?_
          refine lv_iand hx hb dGr_reached_49 ?_
          refine lv_iconst (v := (nI 1)) hx hb dGr_reached_50 (by decide) ?_
          refine lv_isub hx hb dGr_reached_51 ?_
          rw [zb_low _ ho (Nat.pos_of_ne_zero c38)]
          refine z_rS (As := [.int (nI (2 ^ tz (sdf (sn &&& I) ps) - 1))]) (rest := []) Sf (c_bitCount l G (2 ^ tz (sdf (sn &&& I) ps) - 1) (Nat.lt_of_le_of_lt (Nat.sub_le _ _) (pw_lt hz))) mv_Gr_25 ⟨rfl, rfl⟩ ⟨Nat.le_of_ble_eq_true rfl, Nat.le_of_ble_eq_true rfl⟩ r [] rfl rfl hl.1 rfl (Nat.le_of_ble_eq_true rfl) dGr_reached_52 ⟨Nat.le_of_ble_eq_true rfl, Nat.le_of_ble_eq_true rfl⟩ ?_
          rw [popc_low _ hz]
          refine lv_istore (lv' := [(7, .int (nI (tz (sdf (sn &&& I) ps)))), (6, .int (nI (sdf (sn &&& I) ps))), (5, .int (nI k)), (4, .int (nI ps)), (3, .int (nI sn)), (0, .ref g), (1, .int (nI f)), (2, .int (nI I))]) hx hb dGr_reached_55 hl (by decide) rfl (fun ls hl => ?_)
          refine lv_iload hx hb dGr_reached_57 (lv_at hl 3 rfl) ?_
          refine lv_iconst (v := (nI 1)) hx hb dGr_reached_59 (by decide) ?_
          refine lv_iload hx hb dGr_reached_60 (lv_at hl 0 rfl) ?_
          refine z_shl1 hx hb (by omega) dGr_reached_62 ?_
          refine z_orN hx hb dGr_reached_63 ?_
          refine lv_istore (lv' := [(4, .int (nI (ps ||| (2 ^ (tz (sdf (sn &&& I) ps)))))), (7, .int (nI (tz (sdf (sn &&& I) ps)))), (6, .int (nI (sdf (sn &&& I) ps))), (5, .int (nI k)), (3, .int (nI sn)), (0, .ref g), (1, .int (nI f)), (2, .int (nI I))]) hx hb dGr_reached_64 hl (by decide) rfl (fun ls hl => ?_)
          refine lv_iload_n hx hb dGr_reached_66 rfl (lv_at hl 4 rfl) ?_
          refine lv_aload_n hx hb dGr_reached_67 rfl (lv_at hl 5 rfl) ?_
          refine gf_Gr_15 Sf r 0 rfl rfl dGr_reached_68 ?_
          refine lv_iload hx hb dGr_reached_71 (lv_at hl 1 rfl) ?_
          refine z_iald hx hb r 1 (k := (tz (sdf (sn &&& I) ps))) rfl (by omega) (by omega) dGr_reached_73 ?_
          refine z_orN hx hb dGr_reached_74 ?_
          refine lv_istore_n (lv' := [(3, .int (nI (sn ||| (Nb (tz (sdf (sn &&& I) ps)))))), (4, .int (nI (ps ||| (2 ^ (tz (sdf (sn &&& I) ps)))))), (7, .int (nI (tz (sdf (sn &&& I) ps)))), (6, .int (nI (sdf (sn &&& I) ps))), (5, .int (nI k)), (0, .ref g), (1, .int (nI f)), (2, .int (nI I))]) hx hb dGr_reached_75 rfl hl (by decide) rfl (fun ls hl => ?_)
          refine z_iinc (d := 1) (lv' := [(5, .int (nI (k + 1))), (3, .int (nI (sn ||| (Nb (tz (sdf (sn &&& I) ps)))))), (4, .int (nI (ps ||| (2 ^ (tz (sdf (sn &&& I) ps)))))), (7, .int (nI (tz (sdf (sn &&& I) ps)))), (6, .int (nI (sdf (sn &&& I) ps))), (0, .ref g), (1, .int (nI f)), (2, .int (nI I))]) hx hb dGr_reached_76 hl (k := 4) rfl (by decide) (by decide) rfl (fun ls hl => ?_)
          refine lv_goto (tgt := 17) hx hb dGr_reached_79 (by decide) ?_
          refine ih17 (k + 1) (sn ||| (Nb (tz (sdf (sn &&& I) ps)))) (ps ||| (2 ^ (tz (sdf (sn &&& I) ps)))) ?_ ?_ ?_ ?_ ls (lv_sub hl [0, 2, 1, 5, 6, 7] rfl)
          · omega
          · exact or_lt hs (hN _)
          · rw [← hr, show n - k = (n - (k + 1)) + 1 by omega, rchL_s c38]
          · omega
        · skip
          refine lv_goto (tgt := 82) hx hb dGr_reached_41 (by decide) ?_
          refine lv_iload_n hx hb dGr_reached_82 rfl (lv_at hl 3 rfl) ?_
          exact hret _ _ _ dGr_reached_83 (by first | (rw [← hr, show n - k = (n - (k + 1)) + 1 by omega, rchL_0 c38]) | (rw [← hr, show n - k = 0 by omega]; rfl))
  refine L17 ((n - 0) + 1) 0 ((Nb f) ||| (2 ^ f)) 0 ?_ ?_ ?_ ?_ ls (lv_sub hl [0, 1, 2, 3, 4, 5] rfl)
  · omega
  · exact or_lt (hN f) (pw_lt (by omega))
  · rfl
  · exact Nat.lt_succ_self _

def rm_Graph_bagOf : Room := { frames := 2, cells := 0, slots := 0, locals := 80 }
set_option maxHeartbeats 4000000 in
set_option maxRecDepth 100000 in
theorem c_Graph_bagOf (l : Launch) (G : zG) (g av an : Nat) (n : Nat) (st : Int32) (Nb : Nat → Nat) (f gone : Nat) (hn : n ≤ 12) (hf : f < n) (hN : ∀ i, Nb i < 4096) : Met l yGr_bagOf (.code yGr_bagOf cGr_bagOf 3 (some .int) :: zT) rm_Graph_bagOf (zPr G [.ref g, .int (nI f), .int (nI gone)] [(g, zO 2 [.ref av, .ref an, .int (nI n), .int st]), (an, zI G 12 (fun j => nI (Nb j)))]) (k2_QcV (.int (nI (bagF Nb n f gone)))) 0 0 (fun _ => False) := by
  refine z_metRi (by decide) (Nat.le_of_ble_eq_true rfl) (fun p e s m args below meth c ls Q Sf r hl hret => ?_)
  have Sf : CallFix p m c cGr_bagOf 3 s args zT RGr := Sf
  have hx := Sf.1
  have hb := Sf.2.1
  have hown := Sf.2.2.2.1
  have hts := Sf.2.2.2.2
  have hl : lv_has ls 3 [(0, .ref g), (1, .int (nI f)), (2, .int (nI gone))] := hl
  refine lv_aload_n hx hb dGr_bagOf_0 rfl (lv_at hl 0 rfl) ?_
  refine lv_iload_n hx hb dGr_bagOf_1 rfl (lv_at hl 1 rfl) ?_
  refine lv_iload_n hx hb dGr_bagOf_2 rfl (lv_at hl 2 rfl) ?_
  refine z_rV (As := [.int (nI f), .int (nI gone)]) (rest := []) Sf (c_Graph_reached l G g av an n st Nb f gone (by first | assumption | omega) (by first | assumption | omega) (by first | assumption | omega)) mv_Gr_31 ⟨rfl, rfl⟩ ⟨Nat.le_of_ble_eq_true rfl, Nat.le_of_ble_eq_true rfl⟩ r [0, 1] rfl 0 rfl rfl rfl rfl hl.1 rfl (Nat.le_of_ble_eq_true rfl) dGr_bagOf_3 ⟨Nat.le_of_ble_eq_true rfl, Nat.le_of_ble_eq_true rfl⟩ ?_
  refine lv_iload_n hx hb dGr_bagOf_6 rfl (lv_at hl 2 rfl) ?_
  refine lv_iconst (v := (-1)) hx hb dGr_bagOf_7 (by decide) ?_
  refine lv_ixor hx hb dGr_bagOf_8 ?_
  refine z_andC hx hb dGr_bagOf_9 ?_
  exact hret _ _ _ dGr_bagOf_10 (rfl)

def rm_Graph_fillOf : Room := { frames := 2, cells := 0, slots := 0, locals := 80 }
set_option maxHeartbeats 4000000 in
set_option maxRecDepth 100000 in
theorem c_Graph_fillOf (l : Launch) (G : zG) (g av an : Nat) (n : Nat) (st : Int32) (Nb : Nat → Nat) (bag gone : Nat) (hn : n ≤ 12) (hb4 : bag < 4096) (hN : ∀ i, Nb i < 4096) : Met l yGr_fillOf (.code yGr_fillOf cGr_fillOf 5 (some .int) :: zT) rm_Graph_fillOf (zPr G [.ref g, .int (nI bag), .int (nI gone)] [(g, zO 2 [.ref av, .ref an, .int (nI n), .int st]), (an, zI G 12 (fun j => nI (Nb j)))]) (k2_QcV (.int (nI (fillS Nb n bag gone n / 2)))) 0 0 (fun _ => False) := by
  refine z_metRi (by decide) (Nat.le_of_ble_eq_true rfl) (fun p e s m args below meth c ls Q Sf r hl hret => ?_)
  have Sf : CallFix p m c cGr_fillOf 5 s args zT RGr := Sf
  have hx := Sf.1
  have hb := Sf.2.1
  have hown := Sf.2.2.2.1
  have hts := Sf.2.2.2.2
  have hl : lv_has ls 5 [(0, .ref g), (1, .int (nI bag)), (2, .int (nI gone))] := hl
  refine lv_iconst (v := (nI 0)) hx hb dGr_fillOf_0 (by decide) ?_
  refine lv_istore_n (lv' := [(3, .int (nI 0)), (0, .ref g), (1, .int (nI bag)), (2, .int (nI gone))]) hx hb dGr_fillOf_1 rfl hl (by decide) rfl (fun ls hl => ?_)
  refine lv_iconst (v := (nI 0)) hx hb dGr_fillOf_2 (by decide) ?_
  refine lv_istore (lv' := [(4, .int (nI 0)), (3, .int (nI 0)), (0, .ref g), (1, .int (nI bag)), (2, .int (nI gone))]) hx hb dGr_fillOf_3 hl (by decide) rfl (fun ls hl => ?_)
  have L5 : ∀ (fu5 : Nat) (i a : Nat), (i ≤ n) → (a = fillS Nb n bag gone i) → (n - i) < fu5 → ∀ (ls : Array Slot), lv_has ls 5 [(4, .int (nI i)), (3, .int (nI a)), (0, .ref g), (1, .int (nI bag)), (2, .int (nI gone))] → W p l e rm_Graph_fillOf s m args below meth c s.heap [] 0 0 Q (F0 m 5 ls []) := by
    intro fu5
    induction fu5 with
    | zero =>
      intro i a hi ha hm5
      exact absurd hm5 (Nat.not_lt_zero _)
    | succ fu5 ih5 =>
      intro i a hi ha hm5 ls hl
      refine lv_iload hx hb dGr_fillOf_5 (lv_at hl 0 rfl) ?_
      refine lv_aload_n hx hb dGr_fillOf_7 rfl (lv_at hl 2 rfl) ?_
      refine gf_Gr_22 Sf r 0 rfl rfl dGr_fillOf_8 ?_
      refine z_icmpge (tgt := 46) hx hb (by omega) (by omega) dGr_fillOf_11 (by decide) (fun c11 => ?_) (fun c11 => ?_)
      · skip
        refine lv_iload_n hx hb dGr_fillOf_46 rfl (lv_at hl 1 rfl) ?_
        refine lv_iconst (v := (nI 2)) hx hb dGr_fillOf_47 (by decide) ?_
        refine z_divN hx hb (by have := fillS_le (Nb := Nb) (n := n) (gone := gone) hb4 i; omega) (by omega) (by omega) dGr_fillOf_48 ?_
        exact hret _ _ _ dGr_fillOf_49 (by rw [ha, show i = n by omega])
      · skip
        refine lv_iload_n hx hb dGr_fillOf_14 rfl (lv_at hl 3 rfl) ?_
        refine lv_iconst (v := (nI 1)) hx hb dGr_fillOf_15 (by decide) ?_
        refine lv_iload hx hb dGr_fillOf_16 (lv_at hl 0 rfl) ?_
        refine z_shl1 hx hb (by omega) dGr_fillOf_18 ?_
        refine z_andN hx hb dGr_fillOf_19 ?_
        refine z_ifeqbit (tgt := 40) hx hb (by omega) dGr_fillOf_20 (by decide) (fun c20 => ?_) (fun c20 => ?_)
        · skip
          refine z_iinc (d := 1) (lv' := [(4, .int (nI (i + 1))), (3, .int (nI a)), (0, .ref g), (1, .int (nI bag)), (2, .int (nI gone))]) hx hb dGr_fillOf_40 hl (k := 0) rfl (by decide) (by decide) rfl (fun ls hl => ?_)
          refine lv_goto (tgt := 5) hx hb dGr_fillOf_43 (by decide) ?_
          refine ih5 (i + 1) _ ?_ ?_ ?_ ls (lv_sub hl [0, 1, 2, 3, 4] rfl)
          · omega
          · first | (rw [fillS_t c20, ha]) | (rw [fillS_f c20, ha])
          · omega
        · skip
          refine lv_iload_n hx hb dGr_fillOf_23 rfl (lv_at hl 1 rfl) ?_
          refine lv_iload_n hx hb dGr_fillOf_24 rfl (lv_at hl 3 rfl) ?_
          refine lv_aload_n hx hb dGr_fillOf_25 rfl (lv_at hl 2 rfl) ?_
          refine lv_iload hx hb dGr_fillOf_26 (lv_at hl 0 rfl) ?_
          refine lv_iload_n hx hb dGr_fillOf_28 rfl (lv_at hl 4 rfl) ?_
          refine z_rV (As := [.int (nI i), .int (nI gone)]) (rest := [.int (nI bag), .int (nI a)]) Sf (c_Graph_reached l G g av an n st Nb i gone (by first | assumption | omega) (by omega) (by first | assumption | omega)) mv_Gr_31 ⟨rfl, rfl⟩ ⟨Nat.le_of_ble_eq_true rfl, Nat.le_of_ble_eq_true rfl⟩ r [0, 1] rfl 0 rfl rfl rfl rfl hl.1 rfl (Nat.le_of_ble_eq_true rfl) dGr_fillOf_29 ⟨Nat.le_of_ble_eq_true rfl, Nat.le_of_ble_eq_true rfl⟩ ?_
          refine lv_iconst (v := (-1)) hx hb dGr_fillOf_32 (by decide) ?_
          refine lv_ixor hx hb dGr_fillOf_33 ?_
          refine z_andC hx hb dGr_fillOf_34 ?_
          refine z_rS (As := [.int (nI (sdf bag (rchF Nb n i gone)))]) (rest := [.int (nI a)]) Sf (c_bitCount l G (sdf bag (rchF Nb n i gone)) (Nat.lt_of_le_of_lt (sdf_le _ _) hb4)) mv_Gr_25 ⟨rfl, rfl⟩ ⟨Nat.le_of_ble_eq_true rfl, Nat.le_of_ble_eq_true rfl⟩ r [] rfl rfl hl.1 rfl (Nat.le_of_ble_eq_true rfl) dGr_fillOf_35 ⟨Nat.le_of_ble_eq_true rfl, Nat.le_of_ble_eq_true rfl⟩ ?_
          refine z_addN hx hb dGr_fillOf_38 ?_
          refine lv_istore_n (lv' := [(3, .int (nI (a + (popc (sdf bag (rchF Nb n i gone)))))), (4, .int (nI i)), (0, .ref g), (1, .int (nI bag)), (2, .int (nI gone))]) hx hb dGr_fillOf_39 rfl hl (by decide) rfl (fun ls hl => ?_)
          refine z_iinc (d := 1) (lv' := [(4, .int (nI (i + 1))), (3, .int (nI (a + (popc (sdf bag (rchF Nb n i gone)))))), (0, .ref g), (1, .int (nI bag)), (2, .int (nI gone))]) hx hb dGr_fillOf_40 hl (k := 1) rfl (by decide) (by decide) rfl (fun ls hl => ?_)
          refine lv_goto (tgt := 5) hx hb dGr_fillOf_43 (by decide) ?_
          refine ih5 (i + 1) (a + (popc (sdf bag (rchF Nb n i gone)))) ?_ ?_ ?_ ls (lv_sub hl [0, 1, 2, 3, 4] rfl)
          · omega
          · first | (rw [fillS_t c20, ha]) | (rw [fillS_f c20, ha])
          · omega
  refine L5 ((n - 0) + 1) 0 0 ?_ ?_ ?_ ls (lv_sub hl [0, 1, 2, 3, 4] rfl)
  · omega
  · rfl
  · exact Nat.lt_succ_self _

def rm_Graph_valueIn : Room := { frames := 1, cells := 0, slots := 0, locals := 40 }
set_option maxHeartbeats 4000000 in
set_option maxRecDepth 100000 in
theorem c_Graph_valueIn (l : Launch) (G : zG) (g av an : Nat) (n : Nat) (st : Int32) (V : Nat → Nat) (x i : Nat) (hn : n ≤ 12) (hi : i < n) (hx0 : x < 2 ^ 31) (hV : ∀ j, j < n → 0 < V j ∧ V j ≤ 4) : Met l yGr_valueIn (.code yGr_valueIn cGr_valueIn 5 (some .int) :: zT) rm_Graph_valueIn (zPr G [.ref g, .int (nI x), .int (nI i)] [(g, zO 2 [.ref av, .ref an, .int (nI n), .int st]), (av, zI G 12 (fun j => nI (V j)))]) (k2_QcV (.int (nI (valF V n x i)))) 0 0 (fun _ => False) := by
  refine z_metRi (by decide) (Nat.le_of_ble_eq_true rfl) (fun p e s m args below meth c ls Q Sf r hl hret => ?_)
  have Sf : CallFix p m c cGr_valueIn 5 s args zT RGr := Sf
  have hx := Sf.1
  have hb := Sf.2.1
  have hown := Sf.2.2.2.1
  have hts := Sf.2.2.2.2
  have hl : lv_has ls 5 [(0, .ref g), (1, .int (nI x)), (2, .int (nI i))] := hl
  refine lv_iload_n hx hb dGr_valueIn_0 rfl (lv_at hl 1 rfl) ?_
  refine lv_istore_n (lv' := [(3, .int (nI x)), (0, .ref g), (1, .int (nI x)), (2, .int (nI i))]) hx hb dGr_valueIn_1 rfl hl (by decide) rfl (fun ls hl => ?_)
  refine lv_aload_n hx hb dGr_valueIn_2 rfl (lv_at hl 1 rfl) ?_
  refine gf_Gr_22 Sf r 0 rfl rfl dGr_valueIn_3 ?_
  refine lv_iconst (v := (nI 1)) hx hb dGr_valueIn_6 (by decide) ?_
  refine z_subN hx hb (by omega) dGr_valueIn_7 ?_
  refine lv_istore (lv' := [(4, .int (nI (n - 1))), (3, .int (nI x)), (0, .ref g), (1, .int (nI x)), (2, .int (nI i))]) hx hb dGr_valueIn_8 hl (by decide) rfl (fun ls hl => ?_)
  have L10 : ∀ (fu10 : Nat) (k a : Nat), (k ≤ n - 1 - i) → (a = restF V n x k) → (n - k) < fu10 → ∀ (ls : Array Slot), lv_has ls 5 [(4, .int (nI (n - 1 - k))), (3, .int (nI a)), (0, .ref g), (1, .int (nI x)), (2, .int (nI i))] → W p l e rm_Graph_valueIn s m args below meth c s.heap [] 0 0 Q (F0 m 10 ls []) := by
    intro fu10
    induction fu10 with
    | zero =>
      intro k a hk ha hm10
      exact absurd hm10 (Nat.not_lt_zero _)
    | succ fu10 ih10 =>
      intro k a hk ha hm10 ls hl
      refine lv_iload hx hb dGr_valueIn_10 (lv_at hl 0 rfl) ?_
      refine lv_iload_n hx hb dGr_valueIn_12 rfl (lv_at hl 4 rfl) ?_
      refine z_icmple (tgt := 34) hx hb (by omega) (by omega) dGr_valueIn_13 (by decide) (fun c13 => ?_) (fun c13 => ?_)
      · skip
        have hax : a < 2 ^ 31 := Nat.lt_of_le_of_lt (ha ▸ restF_le k) hx0
        have hv := hV i hi
        refine lv_iload_n hx hb dGr_valueIn_34 rfl (lv_at hl 1 rfl) ?_
        refine lv_aload_n hx hb dGr_valueIn_35 rfl (lv_at hl 2 rfl) ?_
        refine gf_Gr_9 Sf r 0 rfl rfl dGr_valueIn_36 ?_
        refine lv_iload_n hx hb dGr_valueIn_39 rfl (lv_at hl 4 rfl) ?_
        refine z_iald hx hb r 1 (k := i) rfl (by omega) (by omega) dGr_valueIn_40 ?_
        refine z_rS (As := [.int (nI a), .int (nI (V i))]) (rest := []) Sf (c_Graph_remainder l G a (V i) hax hv.1 (by omega)) mv_Gr_38 ⟨rfl, rfl⟩ ⟨Nat.le_of_ble_eq_true rfl, Nat.le_of_ble_eq_true rfl⟩ r [] rfl rfl hl.1 rfl (Nat.le_of_ble_eq_true rfl) dGr_valueIn_41 ⟨Nat.le_of_ble_eq_true rfl, Nat.le_of_ble_eq_true rfl⟩ ?_
        exact hret _ _ _ dGr_valueIn_44 (by rw [ha, show k = n - 1 - i by omega]; rfl)
      · skip
        have hax : a < 2 ^ 31 := Nat.lt_of_le_of_lt (ha ▸ restF_le k) hx0
        have hv := hV (n - 1 - k) (by omega)
        refine lv_iload_n hx hb dGr_valueIn_16 rfl (lv_at hl 1 rfl) ?_
        refine lv_aload_n hx hb dGr_valueIn_17 rfl (lv_at hl 2 rfl) ?_
        refine gf_Gr_9 Sf r 0 rfl rfl dGr_valueIn_18 ?_
        refine lv_iload hx hb dGr_valueIn_21 (lv_at hl 0 rfl) ?_
        refine z_iald hx hb r 1 (k := (n - 1 - k)) rfl (by omega) (by omega) dGr_valueIn_23 ?_
        refine z_rS (As := [.int (nI a), .int (nI (V (n - 1 - k)))]) (rest := []) Sf (c_Graph_quotient l G a (V (n - 1 - k)) hax hv.1 (by omega)) mv_Gr_35 ⟨rfl, rfl⟩ ⟨Nat.le_of_ble_eq_true rfl, Nat.le_of_ble_eq_true rfl⟩ r [] rfl rfl hl.1 rfl (Nat.le_of_ble_eq_true rfl) dGr_valueIn_24 ⟨Nat.le_of_ble_eq_true rfl, Nat.le_of_ble_eq_true rfl⟩ ?_
        refine lv_istore_n (lv' := [(3, .int (nI (a / (V (n - 1 - k))))), (4, .int (nI (n - 1 - k))), (0, .ref g), (1, .int (nI x)), (2, .int (nI i))]) hx hb dGr_valueIn_27 rfl hl (by decide) rfl (fun ls hl => ?_)
        refine lv_iinc (v := (nI (n - 1 - (k + 1)))) (lv' := [(4, .int (nI (n - 1 - (k + 1)))), (3, .int (nI (a / (V (n - 1 - k))))), (0, .ref g), (1, .int (nI x)), (2, .int (nI i))]) hx hb dGr_valueIn_28 hl (k := 1) rfl (by rw [show n - 1 - k = (n - 1 - (k + 1)) + 1 by omega]; exact pk_m1 _) (by decide) rfl (fun ls hl => ?_)
        refine lv_goto (tgt := 10) hx hb dGr_valueIn_31 (by decide) ?_
        refine ih10 (k + 1) (a / (V (n - 1 - k))) ?_ ?_ ?_ ls (lv_sub hl [0, 1, 2, 3, 4] rfl)
        · omega
        · rw [ha]; rfl
        · omega
  refine L10 ((n - 0) + 1) 0 x ?_ ?_ ?_ ls (lv_sub hl [0, 1, 2, 3, 4] rfl)
  · omega
  · rfl
  · exact Nat.lt_succ_self _
