def rm_Graph_init : Room := { frames := 1, cells := 2, slots := 24, locals := 40 }
set_option maxHeartbeats 4000000 in
set_option maxRecDepth 100000 in
theorem c_Graph_init (l : Launch) (G : zG) (g : Nat)  (sz : Nat) : Met l yGr_init (.code yGr_init cGr_init 1 none :: zT) rm_Graph_init (zPw G [.ref g] [(g, zO 2 [.null, .null, .int (nI 0), .int (nI 0)])] sz) (zQ (S := Nat × Nat) G (fun u => none) (fun u => [(g, zO 2 [.ref u.1, .ref u.2, .int (nI 0), .int (nI 1)]), (u.1, zI G 12 (fun j => nI ((fun _ => 0) j))), (u.2, zI G 12 (fun j => nI ((fun _ => 0) j)))]) (va_A [(g, zO 2 [.null, .null, .int (nI 0), .int (nI 0)])] sz) (fun u => True)) 2 24 (va_A [(g, zO 2 [.null, .null, .int (nI 0), .int (nI 0)])] sz) := by
  refine z_metWv (by decide) (Nat.le_of_ble_eq_true rfl) (fun p e s m args below meth c ls A Q Sf hnm w hl hret => ?_)
  obtain ⟨H, hH⟩ : ∃ H, H = s.heap := ⟨_, rfl⟩
  obtain ⟨locs, hlo⟩ : ∃ L : List Loc, L = [] := ⟨_, rfl⟩
  rw [← hH, ← hlo] at w
  rw [← hH, ← hlo]
  clear hH hlo
  have Sf : CallFix p m c cGr_init 1 s args zT RGr := Sf
  have hx := Sf.1
  have hb := Sf.2.1
  have hown := Sf.2.2.2.1
  have hts := Sf.2.2.2.2
  have hl : lv_has ls 1 [(0, .ref g)] := hl
  refine lv_aload_n hx hb dGr_init_0 rfl (lv_at hl 0 rfl) ?_
  refine W.objInit hx hb hown (hts _ oi_Gr_3) (hts _ oi_inst) (hts _ oi_code) rfl (by rw [Sf.2.2.1]; exact hl.1) rfl dGr_init_1 (Nat.le_of_ble_eq_true rfl) (Nat.le_of_ble_eq_true rfl) ?_
  refine W.eq (g2 := F0 m 4 ls []) rfl ?_
  refine lv_aload_n hx hb dGr_init_4 rfl (lv_at hl 0 rfl) ?_
  refine lv_bipush (v := nI 12) hx hb dGr_init_5 (by decide) ?_
  refine z_newi hx hb hts ka_int w (N := 12) (by omega) (by decide) (by decide) dGr_init_7 (fun q1 H w => ?_)
  have w := w.eq (ws' := [(g, zO 2 [.null, .null, .int (nI 0), .int (nI 0)]), (q1, zI G 12 (fun j => nI ((fun _ => 0) j)))]) rfl
  refine pf_Gr_9 Sf hnm w 0 rfl rfl rfl (Nat.le_of_ble_eq_true rfl) (ws' := [(g, zO 2 [.ref q1, .null, .int (nI 0), .int (nI 0)]), (q1, zI G 12 (fun j => nI ((fun _ => 0) j)))]) rfl dGr_init_9 (fun H locs w => ?_)
  refine lv_aload_n hx hb dGr_init_12 rfl (lv_at hl 0 rfl) ?_
  refine lv_bipush (v := nI 12) hx hb dGr_init_13 (by decide) ?_
  refine z_newi hx hb hts ka_int w (N := 12) (by omega) (by decide) (by decide) dGr_init_15 (fun q2 H w => ?_)
  have w := w.eq (ws' := [(g, zO 2 [.ref q1, .null, .int (nI 0), .int (nI 0)]), (q1, zI G 12 (fun j => nI ((fun _ => 0) j))), (q2, zI G 12 (fun j => nI ((fun _ => 0) j)))]) rfl
  refine pf_Gr_15 Sf hnm w 0 rfl rfl rfl (Nat.le_of_ble_eq_true rfl) (ws' := [(g, zO 2 [.ref q1, .ref q2, .int (nI 0), .int (nI 0)]), (q1, zI G 12 (fun j => nI ((fun _ => 0) j))), (q2, zI G 12 (fun j => nI ((fun _ => 0) j)))]) rfl dGr_init_17 (fun H locs w => ?_)
  refine lv_aload_n hx hb dGr_init_20 rfl (lv_at hl 0 rfl) ?_
  refine lv_iconst (v := (nI 1)) hx hb dGr_init_21 (by decide) ?_
  refine pf_Gr_18 Sf w 0 rfl rfl rfl (Nat.le_of_ble_eq_true rfl) (ws' := [(g, zO 2 [.ref q1, .ref q2, .int (nI 0), .int (nI 1)]), (q1, zI G 12 (fun j => nI ((fun _ => 0) j))), (q2, zI G 12 (fun j => nI ((fun _ => 0) j)))]) rfl dGr_init_22 (fun H locs w => ?_)
  exact hret _ _ _ _ (q1, q2) _ w (rfl) (trivial) dGr_init_25 rfl

def rm_Graph_addName : Room := { frames := 0, cells := 0, slots := 0, locals := 0 }
set_option maxHeartbeats 4000000 in
set_option maxRecDepth 100000 in
theorem c_Graph_addName (l : Launch) (G : zG) (g av an : Nat) (n st : Nat) (V : Nat → Nat) (k : Nat) (hn : n < 12) (sz : Nat) : Met l yGr_addName (.code yGr_addName cGr_addName 3 (some .int) :: zT) rm_Graph_addName (zPw G [.ref g, .int (nI k)] [(g, zO 2 [.ref av, .ref an, .int (nI n), .int (nI st)]), (av, zI G 12 (fun j => nI (V j)))] sz) (zQ (S := Unit) G (fun u => some (.int (nI n))) (fun u => [(g, zO 2 [.ref av, .ref an, .int (nI (n + 1)), .int (nI (st * k))]), (av, zI G 12 (fun j => nI ((va_up V n k) j)))]) (va_A [(g, zO 2 [.ref av, .ref an, .int (nI n), .int (nI st)]), (av, zI G 12 (fun j => nI (V j)))] sz) (fun u => True)) 0 0 (va_A [(g, zO 2 [.ref av, .ref an, .int (nI n), .int (nI st)]), (av, zI G 12 (fun j => nI (V j)))] sz) := by
  refine z_metWi (by decide) (Nat.le_of_ble_eq_true rfl) (fun p e s m args below meth c ls A Q Sf hnm w hl hret => ?_)
  obtain ⟨H, hH⟩ : ∃ H, H = s.heap := ⟨_, rfl⟩
  obtain ⟨locs, hlo⟩ : ∃ L : List Loc, L = [] := ⟨_, rfl⟩
  rw [← hH, ← hlo] at w
  rw [← hH, ← hlo]
  clear hH hlo
  have Sf : CallFix p m c cGr_addName 3 s args zT RGr := Sf
  have hx := Sf.1
  have hb := Sf.2.1
  have hown := Sf.2.2.2.1
  have hts := Sf.2.2.2.2
  have hl : lv_has ls 3 [(0, .ref g), (1, .int (nI k))] := hl
  refine lv_aload_n hx hb dGr_addName_0 rfl (lv_at hl 0 rfl) ?_
  refine gf_Gr_22 Sf w.1 0 rfl rfl dGr_addName_1 ?_
  refine lv_istore_n (lv' := [(2, .int (nI n)), (0, .ref g), (1, .int (nI k))]) hx hb dGr_addName_4 rfl hl (by decide) rfl (fun ls hl => ?_)
  refine lv_iload_n hx hb dGr_addName_5 rfl (lv_at hl 0 rfl) ?_
  refine lv_bipush (v := nI 12) hx hb dGr_addName_6 (by decide) ?_
  refine z_icmpge (tgt := 35) hx hb (by omega) (by omega) dGr_addName_8 (by decide) (fun c8 => ?_) (fun c8 => ?_)
  · skip
    exact absurd c8 (by omega)
  · skip
    refine lv_aload_n hx hb dGr_addName_11 rfl (lv_at hl 1 rfl) ?_
    refine gf_Gr_9 Sf w.1 0 rfl rfl dGr_addName_12 ?_
    refine lv_iload_n hx hb dGr_addName_15 rfl (lv_at hl 0 rfl) ?_
    refine lv_iload_n hx hb dGr_addName_16 rfl (lv_at hl 2 rfl) ?_
    refine z_iastN hx hb w 1 (k := n) rfl (by omega) (by omega) (ws' := [(g, zO 2 [.ref av, .ref an, .int (nI n), .int (nI st)]), (av, zI G 12 (fun j => nI ((va_up V n k) j)))]) rfl dGr_addName_17 (fun H locs w => ?_)
    refine lv_aload_n hx hb dGr_addName_18 rfl (lv_at hl 1 rfl) ?_
    refine lv_iload_n hx hb dGr_addName_19 rfl (lv_at hl 0 rfl) ?_
    refine lv_iconst (v := (nI 1)) hx hb dGr_addName_20 (by decide) ?_
    refine z_addN hx hb dGr_addName_21 ?_
    refine pf_Gr_22 Sf w 0 rfl rfl rfl (Nat.le_of_ble_eq_true rfl) (ws' := [(g, zO 2 [.ref av, .ref an, .int (nI (n + 1)), .int (nI st)]), (av, zI G 12 (fun j => nI ((va_up V n k) j)))]) rfl dGr_addName_22 (fun H locs w => ?_)
    refine lv_aload_n hx hb dGr_addName_25 rfl (lv_at hl 1 rfl) ?_
    refine lv_aload_n hx hb dGr_addName_26 rfl (lv_at hl 1 rfl) ?_
    refine gf_Gr_18 Sf w.1 0 rfl rfl dGr_addName_27 ?_
    refine lv_iload_n hx hb dGr_addName_30 rfl (lv_at hl 2 rfl) ?_
    refine z_mulN hx hb dGr_addName_31 ?_
    refine pf_Gr_18 Sf w 0 rfl rfl rfl (Nat.le_of_ble_eq_true rfl) (ws' := [(g, zO 2 [.ref av, .ref an, .int (nI (n + 1)), .int (nI (st * k))]), (av, zI G 12 (fun j => nI ((va_up V n k) j)))]) rfl dGr_addName_32 (fun H locs w => ?_)
    refine lv_iload_n hx hb dGr_addName_35 rfl (lv_at hl 0 rfl) ?_
    exact hret _ _ _ _ () _ _ w (rfl) (trivial) dGr_addName_36 (rfl)

def rm_Graph_join : Room := { frames := 0, cells := 0, slots := 0, locals := 0 }
set_option maxHeartbeats 4000000 in
set_option maxRecDepth 100000 in
theorem c_Graph_join (l : Launch) (G : zG) (g av an : Nat) (n : Nat) (st : Int32) (Nb : Nat → Nat) (S : Nat) (hn : n ≤ 12) (hN : ∀ i, Nb i < 4096) (hS : S < 4096) (sz : Nat) : Met l yGr_join (.code yGr_join cGr_join 3 none :: zT) rm_Graph_join (zPw G [.ref g, .int (nI S)] [(g, zO 2 [.ref av, .ref an, .int (nI n), .int st]), (an, zI G 12 (fun j => nI (Nb j)))] sz) (zQ (S := Unit) G (fun u => none) (fun u => [(g, zO 2 [.ref av, .ref an, .int (nI n), .int st]), (an, zI G 12 (fun j => nI ((rowF Nb (jnF Nb S) n) j)))]) (va_A [(g, zO 2 [.ref av, .ref an, .int (nI n), .int st]), (an, zI G 12 (fun j => nI (Nb j)))] sz) (fun u => True)) 0 0 (va_A [(g, zO 2 [.ref av, .ref an, .int (nI n), .int st]), (an, zI G 12 (fun j => nI (Nb j)))] sz) := by
  refine z_metWv (by decide) (Nat.le_of_ble_eq_true rfl) (fun p e s m args below meth c ls A Q Sf hnm w hl hret => ?_)
  obtain ⟨H, hH⟩ : ∃ H, H = s.heap := ⟨_, rfl⟩
  obtain ⟨locs, hlo⟩ : ∃ L : List Loc, L = [] := ⟨_, rfl⟩
  rw [← hH, ← hlo] at w
  rw [← hH, ← hlo]
  clear hH hlo
  have Sf : CallFix p m c cGr_join 3 s args zT RGr := Sf
  have hx := Sf.1
  have hb := Sf.2.1
  have hown := Sf.2.2.2.1
  have hts := Sf.2.2.2.2
  have hl : lv_has ls 3 [(0, .ref g), (1, .int (nI S))] := hl
  refine lv_iconst (v := (nI 0)) hx hb dGr_join_0 (by decide) ?_
  refine lv_istore_n (lv' := [(2, .int (nI 0)), (0, .ref g), (1, .int (nI S))]) hx hb dGr_join_1 rfl hl (by decide) rfl (fun ls hl => ?_)
  have L2 : ∀ (fu2 : Nat) (i : Nat) (F : Nat → Nat), (i ≤ n) → (F = rowF Nb (jnF Nb S) i) → (n - i) < fu2 → ∀ (H : Heap) (locs : List Loc), zw G A s [(g, zO 2 [.ref av, .ref an, .int (nI n), .int st]), (an, zI G 12 (fun j => nI (F j)))] H locs → ∀ (ls : Array Slot), lv_has ls 3 [(2, .int (nI i)), (0, .ref g), (1, .int (nI S))] → W p l e rm_Graph_join s m args below meth c H locs 0 0 Q (F0 m 2 ls []) := by
    intro fu2
    induction fu2 with
    | zero =>
      intro i F hi hF hm2
      exact absurd hm2 (Nat.not_lt_zero _)
    | succ fu2 ih2 =>
      intro i F hi hF hm2 H locs w ls hl
      refine lv_iload_n hx hb dGr_join_2 rfl (lv_at hl 0 rfl) ?_
      refine lv_aload_n hx hb dGr_join_3 rfl (lv_at hl 1 rfl) ?_
      refine gf_Gr_22 Sf w.1 0 rfl rfl dGr_join_4 ?_
      refine z_icmpge (tgt := 40) hx hb (by omega) (by omega) dGr_join_7 (by decide) (fun c7 => ?_) (fun c7 => ?_)
      · skip
        exact hret _ _ _ _ () _ w (by rw [hF, show i = n by omega]) (trivial) dGr_join_40 rfl
      · skip
        refine lv_iload_n hx hb dGr_join_10 rfl (lv_at hl 2 rfl) ?_
        refine lv_iconst (v := (nI 1)) hx hb dGr_join_11 (by decide) ?_
        refine lv_iload_n hx hb dGr_join_12 rfl (lv_at hl 0 rfl) ?_
        refine z_shl1 hx hb (by omega) dGr_join_13 ?_
        refine z_andN hx hb dGr_join_14 ?_
        refine z_ifeqbit (tgt := 34) hx hb (by omega) dGr_join_15 (by decide) (fun c15 => ?_) (fun c15 => ?_)
        · skip
          refine z_iinc (d := 1) (lv' := [(2, .int (nI (i + 1))), (0, .ref g), (1, .int (nI S))]) hx hb dGr_join_34 hl (k := 0) rfl (by decide) (by decide) rfl (fun ls hl => ?_)
          refine lv_goto (tgt := 2) hx hb dGr_join_37 (by decide) ?_
          refine ih2 (i + 1) F ?_ ?_ ?_ _ _ w ls (lv_sub hl [0, 1, 2] rfl)
          · omega
          · first | (rw [hF, rowF_ge (Nat.le_refl i), ← rowF_s, jnF_t c15]) | (rw [hF, rowF_skip (jnF_f c15)])
          · omega
        · skip
          refine lv_aload_n hx hb dGr_join_18 rfl (lv_at hl 1 rfl) ?_
          refine gf_Gr_15 Sf w.1 0 rfl rfl dGr_join_19 ?_
          refine lv_iload_n hx hb dGr_join_22 rfl (lv_at hl 0 rfl) ?_
          refine lv_dup2_11 hx hb dGr_join_23 rfl rfl ?_
          refine z_iald hx hb w.1 1 (k := i) rfl (by omega) (by omega) dGr_join_24 ?_
          refine lv_iload_n hx hb dGr_join_25 rfl (lv_at hl 2 rfl) ?_
          refine lv_iconst (v := (nI 1)) hx hb dGr_join_26 (by decide) ?_
          refine lv_iload_n hx hb dGr_join_27 rfl (lv_at hl 0 rfl) ?_
          refine z_shl1 hx hb (by omega) dGr_join_28 ?_
          refine lv_iconst (v := (-1)) hx hb dGr_join_29 (by decide) ?_
          refine lv_ixor hx hb dGr_join_30 ?_
          refine z_andC hx hb dGr_join_31 ?_
          refine z_orN hx hb dGr_join_32 ?_
          refine z_iastN hx hb w 1 (k := i) rfl (by omega) (by omega) (ws' := [(g, zO 2 [.ref av, .ref an, .int (nI n), .int st]), (an, zI G 12 (fun j => nI ((va_up F i ((F i) ||| (sdf S (2 ^ i)))) j)))]) rfl dGr_join_33 (fun H locs w => ?_)
          refine z_iinc (d := 1) (lv' := [(2, .int (nI (i + 1))), (0, .ref g), (1, .int (nI S))]) hx hb dGr_join_34 hl (k := 0) rfl (by decide) (by decide) rfl (fun ls hl => ?_)
          refine lv_goto (tgt := 2) hx hb dGr_join_37 (by decide) ?_
          refine ih2 (i + 1) (va_up F i ((F i) ||| (sdf S (2 ^ i)))) ?_ ?_ ?_ _ _ w ls (lv_sub hl [0, 1, 2] rfl)
          · omega
          · first | (rw [hF, rowF_ge (Nat.le_refl i), ← rowF_s, jnF_t c15]) | (rw [hF, rowF_skip (jnF_f c15)])
          · omega
  refine L2 ((n - 0) + 1) 0 Nb ?_ ?_ ?_ _ _ w ls (lv_sub hl [0, 1, 2] rfl)
  · omega
  · exact (rowF_0 _ _).symm
  · exact Nat.lt_succ_self _
