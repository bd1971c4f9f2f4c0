def rm_Fs_afterLastName : Room := { frames := 0, cells := 0, slots := 0, locals := 0 }
set_option maxHeartbeats 4000000 in
set_option maxRecDepth 100000 in
theorem c_Fs_afterLastName (l : Launch) (G : zG) (S : Nat) (hS : S < 4096) : Met l yFs_afterLastName (.code yFs_afterLastName cFs_afterLastName 3 (some .int) :: zT) rm_Fs_afterLastName (zPr G [.int (nI S)] []) (k2_QcV (.int (nI (alF S 12)))) 0 0 (fun _ => False) := by
  refine z_metRi (by decide) (Nat.le_of_ble_eq_true rfl) (fun p e s m args below meth c ls Q Sf r hl hret => ?_)
  have Sf : CallFix p m c cFs_afterLastName 3 s args zT RFs := Sf
  have hx := Sf.1
  have hb := Sf.2.1
  have hown := Sf.2.2.2.1
  have hts := Sf.2.2.2.2
  have hl : lv_has ls 3 [(0, .int (nI S))] := hl
  refine lv_iconst (v := (nI 0)) hx hb dFs_afterLastName_0 (by decide) ?_
  refine lv_istore_n (lv' := [(1, .int (nI 0)), (0, .int (nI S))]) hx hb dFs_afterLastName_1 rfl hl (by decide) rfl (fun ls hl => ?_)
  refine lv_iconst (v := (nI 0)) hx hb dFs_afterLastName_2 (by decide) ?_
  refine lv_istore_n (lv' := [(2, .int (nI 0)), (1, .int (nI 0)), (0, .int (nI S))]) hx hb dFs_afterLastName_3 rfl hl (by decide) rfl (fun ls hl => ?_)
  have L4 : ∀ (fu4 : Nat) (i a : Nat), (i ≤ 12) → (a = alF S i) → (12 - i) < fu4 → ∀ (ls : Array Slot), lv_has ls 3 [(2, .int (nI i)), (1, .int (nI a)), (0, .int (nI S))] → W p l e rm_Fs_afterLastName s m args below meth c s.heap [] 0 0 Q (F0 m 4 ls []) := by
    intro fu4
    induction fu4 with
    | zero =>
      intro i a hi ha hm4
      exact absurd hm4 (Nat.not_lt_zero _)
    | succ fu4 ih4 =>
      intro i a hi ha hm4 ls hl
      refine lv_iload_n hx hb dFs_afterLastName_4 rfl (lv_at hl 0 rfl) ?_
      refine lv_bipush (v := nI 12) hx hb dFs_afterLastName_5 (by decide) ?_
      refine z_icmpge (tgt := 28) hx hb (by omega) (by omega) dFs_afterLastName_7 (by decide) (fun c7 => ?_) (fun c7 => ?_)
      · skip
        refine lv_iload_n hx hb dFs_afterLastName_28 rfl (lv_at hl 1 rfl) ?_
        exact hret _ _ _ dFs_afterLastName_29 (by rw [ha, show i = 12 by omega])
      · skip
        refine lv_iload_n hx hb dFs_afterLastName_10 rfl (lv_at hl 2 rfl) ?_
        refine lv_iconst (v := (nI 1)) hx hb dFs_afterLastName_11 (by decide) ?_
        refine lv_iload_n hx hb dFs_afterLastName_12 rfl (lv_at hl 0 rfl) ?_
        refine z_shl1 hx hb (by omega) dFs_afterLastName_13 ?_
        refine z_andN hx hb dFs_afterLastName_14 ?_
        refine z_ifeqbit (tgt := 22) hx hb (by omega) dFs_afterLastName_15 (by decide) (fun c15 => ?_) (fun c15 => ?_)
        · skip
          refine z_iinc (d := 1) (lv' := [(2, .int (nI (i + 1))), (1, .int (nI a)), (0, .int (nI S))]) hx hb dFs_afterLastName_22 hl (k := 0) rfl (by decide) (by decide) rfl (fun ls hl => ?_)
          refine lv_goto (tgt := 4) hx hb dFs_afterLastName_25 (by decide) ?_
          refine ih4 (i + 1) _ ?_ ?_ ?_ ls (lv_sub hl [0, 1, 2] rfl)
          · omega
          · first | (rw [alF_t c15]; done) | (rw [alF_f c15, ha])
          · omega
        · skip
          refine lv_iload_n hx hb dFs_afterLastName_18 rfl (lv_at hl 0 rfl) ?_
          refine lv_iconst (v := (nI 1)) hx hb dFs_afterLastName_19 (by decide) ?_
          refine z_addN hx hb dFs_afterLastName_20 ?_
          refine lv_istore_n (lv' := [(1, .int (nI (i + 1))), (2, .int (nI i)), (0, .int (nI S))]) hx hb dFs_afterLastName_21 rfl hl (by decide) rfl (fun ls hl => ?_)
          refine z_iinc (d := 1) (lv' := [(2, .int (nI (i + 1))), (1, .int (nI (i + 1))), (0, .int (nI S))]) hx hb dFs_afterLastName_22 hl (k := 1) rfl (by decide) (by decide) rfl (fun ls hl => ?_)
          refine lv_goto (tgt := 4) hx hb dFs_afterLastName_25 (by decide) ?_
          refine ih4 (i + 1) (i + 1) ?_ ?_ ?_ ls (lv_sub hl [0, 1, 2] rfl)
          · omega
          · first | (rw [alF_t c15]; done) | (rw [alF_f c15, ha])
          · omega
  refine L4 ((12 - 0) + 1) 0 0 ?_ ?_ ?_ ls (lv_sub hl [0, 1, 2] rfl)
  · omega
  · rfl
  · exact Nat.lt_succ_self _
