def rm_Mo_width : Room := { frames := 1, cells := 0, slots := 0, locals := 40 }
set_option maxHeartbeats 4000000 in
set_option maxRecDepth 100000 in
theorem c_Mo_width (l : Launch) (G : zG) (m0 av ab apl ase aco aen aor aba ali ale ach ast atw ats : Nat) (n stt nf mem kd sl fi tp th : Nat) (Bg : Nat → Nat) (hn : n ≤ 12) (hBg : ∀ i, Bg i < 4096) : Met l yMo_width (.code yMo_width cMo_width 3 (some .int) :: zT) rm_Mo_width (zPr G [.ref m0] [(m0, zO 7 [.int (nI n), .ref av, .ref ab, .ref apl, .int (nI stt), .int (nI nf), .ref ase, .ref aco, .ref aen, .int (nI mem), .int (nI kd), .int (nI sl), .ref aor, .ref aba, .int (nI fi), .ref ali, .ref ale, .ref ach, .ref ast, .ref atw, .ref ats, .int (nI tp), .int (nI th)]), (aba, zI G 12 (fun j => nI (Bg j)))]) (k2_QcV (.int (mI (wdF Bg n)))) 0 0 (fun _ => False) := by
  refine z_metRi (by decide) (Nat.le_of_ble_eq_true rfl) (fun p e s m args below meth c ls Q Sf r hl hret => ?_)
  have Sf : CallFix p m c cMo_width 3 s args zT RMo := Sf
  have hx := Sf.1
  have hb := Sf.2.1
  have hown := Sf.2.2.2.1
  have hts := Sf.2.2.2.2
  have hl : lv_has ls 3 [(0, .ref m0)] := hl
  refine lv_iconst (v := (mI 0)) hx hb dMo_width_0 (by decide) ?_
  refine lv_istore_n (lv' := [(1, .int (mI 0)), (0, .ref m0)]) hx hb dMo_width_1 rfl hl (by decide) rfl (fun ls hl => ?_)
  refine lv_iconst (v := (nI 0)) hx hb dMo_width_2 (by decide) ?_
  refine lv_istore_n (lv' := [(2, .int (nI 0)), (1, .int (mI 0)), (0, .ref m0)]) hx hb dMo_width_3 rfl hl (by decide) rfl (fun ls hl => ?_)
  have L4 : ∀ (fu4 : Nat) (i w : Nat), (i ≤ n) → (w = wdF Bg i) → (w ≤ 12) → (n - i) < fu4 → ∀ (ls : Array Slot), lv_has ls 3 [(2, .int (nI i)), (1, .int (mI w)), (0, .ref m0)] → W p l e rm_Mo_width s m args below meth c s.heap [] 0 0 Q (F0 m 4 ls []) := by
    intro fu4
    induction fu4 with
    | zero =>
      intro i w hi hw hw2 hm4
      exact absurd hm4 (Nat.not_lt_zero _)
    | succ fu4 ih4 =>
      intro i w hi hw hw2 hm4 ls hl
      have hp := popc_le (Bg i) (hBg i)
      refine lv_iload_n hx hb dMo_width_4 rfl (lv_at hl 0 rfl) ?_
      refine lv_aload_n hx hb dMo_width_5 rfl (lv_at hl 2 rfl) ?_
      refine gf_Mo_68 Sf r 0 rfl rfl dMo_width_6 ?_
      refine z_icmpge (tgt := 49) hx hb (by omega) (by omega) dMo_width_9 (by decide) (fun c9 => ?_) (fun c9 => ?_)
      · skip
        refine lv_iload_n hx hb dMo_width_49 rfl (lv_at hl 1 rfl) ?_
        exact hret _ _ _ dMo_width_50 (by rw [hw, show i = n by omega])
      · skip
        refine lv_aload_n hx hb dMo_width_12 rfl (lv_at hl 2 rfl) ?_
        refine gf_Mo_31 Sf r 0 rfl rfl dMo_width_13 ?_
        refine lv_iload_n hx hb dMo_width_16 rfl (lv_at hl 0 rfl) ?_
        refine z_iald hx hb r 1 (k := i) rfl (by omega) (by omega) dMo_width_17 ?_
        refine z_rS (As := [.int (nI (Bg i))]) (rest := []) Sf (c_Mo_many l G (Bg i) (hBg i)) mv_Mo_86 ⟨rfl, rfl⟩ ⟨Nat.le_of_ble_eq_true rfl, Nat.le_of_ble_eq_true rfl⟩ r [] rfl rfl hl.1 rfl (Nat.le_of_ble_eq_true rfl) dMo_width_18 ⟨Nat.le_of_ble_eq_true rfl, Nat.le_of_ble_eq_true rfl⟩ ?_
        refine lv_iconst (v := (nI 1)) hx hb dMo_width_21 (by decide) ?_
        refine z_subM hx hb dMo_width_22 ?_
        refine lv_iload_n hx hb dMo_width_23 rfl (lv_at hl 1 rfl) ?_
        refine z_icmpleMM (tgt := 41) hx hb (by omega) (by omega) dMo_width_24 (by decide) (fun c24 => ?_) (fun c24 => ?_)
        · skip
          refine lv_iload_n hx hb dMo_width_41 rfl (lv_at hl 1 rfl) ?_
          refine lv_istore_n (lv' := [(1, .int (mI w)), (2, .int (nI i)), (0, .ref m0)]) hx hb dMo_width_42 rfl hl (by decide) rfl (fun ls hl => ?_)
          refine z_iinc (d := 1) (lv' := [(2, .int (nI (i + 1))), (1, .int (mI w)), (0, .ref m0)]) hx hb dMo_width_43 hl (k := 1) rfl (by decide) (by decide) rfl (fun ls hl => ?_)
          refine lv_goto (tgt := 4) hx hb dMo_width_46 (by decide) ?_
          refine ih4 (i + 1) _ ?_ ?_ ?_ ?_ ls (lv_sub hl [0, 1, 2] rfl)
          · omega
          · simp only [wdF]; rw [← hw]; omega
          · omega
          · omega
        · skip
          refine lv_aload_n hx hb dMo_width_27 rfl (lv_at hl 2 rfl) ?_
          refine gf_Mo_31 Sf r 0 rfl rfl dMo_width_28 ?_
          refine lv_iload_n hx hb dMo_width_31 rfl (lv_at hl 0 rfl) ?_
          refine z_iald hx hb r 1 (k := i) rfl (by omega) (by omega) dMo_width_32 ?_
          refine z_rS (As := [.int (nI (Bg i))]) (rest := []) Sf (c_Mo_many l G (Bg i) (hBg i)) mv_Mo_86 ⟨rfl, rfl⟩ ⟨Nat.le_of_ble_eq_true rfl, Nat.le_of_ble_eq_true rfl⟩ r [] rfl rfl hl.1 rfl (Nat.le_of_ble_eq_true rfl) dMo_width_33 ⟨Nat.le_of_ble_eq_true rfl, Nat.le_of_ble_eq_true rfl⟩ ?_
          refine lv_iconst (v := (nI 1)) hx hb dMo_width_36 (by decide) ?_
          refine z_subM hx hb dMo_width_37 ?_
          refine lv_goto (tgt := 42) hx hb dMo_width_38 (by decide) ?_
          refine lv_istore_n (lv' := [(1, .int (mI (popc (Bg i)))), (2, .int (nI i)), (0, .ref m0)]) hx hb dMo_width_42 rfl hl (by decide) rfl (fun ls hl => ?_)
          refine z_iinc (d := 1) (lv' := [(2, .int (nI (i + 1))), (1, .int (mI (popc (Bg i)))), (0, .ref m0)]) hx hb dMo_width_43 hl (k := 1) rfl (by decide) (by decide) rfl (fun ls hl => ?_)
          refine lv_goto (tgt := 4) hx hb dMo_width_46 (by decide) ?_
          refine ih4 (i + 1) (popc (Bg i)) ?_ ?_ ?_ ?_ ls (lv_sub hl [0, 1, 2] rfl)
          · omega
          · simp only [wdF]; rw [← hw]; omega
          · omega
          · omega
  refine L4 ((n - 0) + 1) 0 0 ?_ ?_ ?_ ?_ ls (lv_sub hl [0, 1, 2] rfl)
  · omega
  · rfl
  · omega
  · exact Nat.lt_succ_self _

def rm_Mo_mostCells : Room := { frames := 1, cells := 0, slots := 0, locals := 40 }
set_option maxHeartbeats 4000000 in
set_option maxRecDepth 100000 in
theorem c_Mo_mostCells (l : Launch) (G : zG) (m0 av ab apl ase aco aen aor aba ali ale ach ast atw ats : Nat) (n stt nf mem kd sl fi tp th : Nat) (V Bg : Nat → Nat) (hn : n ≤ 12) (hV : ∀ j, V j ≤ 4) (hBg : ∀ i, Bg i < 4096) : Met l yMo_mostCells (.code yMo_mostCells cMo_mostCells 3 (some .int) :: zT) rm_Mo_mostCells (zPr G [.ref m0] [(m0, zO 7 [.int (nI n), .ref av, .ref ab, .ref apl, .int (nI stt), .int (nI nf), .ref ase, .ref aco, .ref aen, .int (nI mem), .int (nI kd), .int (nI sl), .ref aor, .ref aba, .int (nI fi), .ref ali, .ref ale, .ref ach, .ref ast, .ref atw, .ref ats, .int (nI tp), .int (nI th)]), (av, zI G 12 (fun j => nI (V j))), (aba, zI G 12 (fun j => nI (Bg j)))]) (k2_QcV (.int (nI (mcF V Bg n n)))) 0 0 (fun _ => False) := by
  refine z_metRi (by decide) (Nat.le_of_ble_eq_true rfl) (fun p e s m args below meth c ls Q Sf r hl hret => ?_)
  have Sf : CallFix p m c cMo_mostCells 3 s args zT RMo := Sf
  have hx := Sf.1
  have hb := Sf.2.1
  have hown := Sf.2.2.2.1
  have hts := Sf.2.2.2.2
  have hl : lv_has ls 3 [(0, .ref m0)] := hl
  refine lv_iconst (v := (nI 0)) hx hb dMo_mostCells_0 (by decide) ?_
  refine lv_istore_n (lv' := [(1, .int (nI 0)), (0, .ref m0)]) hx hb dMo_mostCells_1 rfl hl (by decide) rfl (fun ls hl => ?_)
  refine lv_iconst (v := (nI 0)) hx hb dMo_mostCells_2 (by decide) ?_
  refine lv_istore_n (lv' := [(2, .int (nI 0)), (1, .int (nI 0)), (0, .ref m0)]) hx hb dMo_mostCells_3 rfl hl (by decide) rfl (fun ls hl => ?_)
  have L4 : ∀ (fu4 : Nat) (i w : Nat), (i ≤ n) → (w = mcF V Bg n i) → (n - i) < fu4 → ∀ (ls : Array Slot), lv_has ls 3 [(2, .int (nI i)), (1, .int (nI w)), (0, .ref m0)] → W p l e rm_Mo_mostCells s m args below meth c s.heap [] 0 0 Q (F0 m 4 ls []) := by
    intro fu4
    induction fu4 with
    | zero =>
      intro i w hi hw hm4
      exact absurd hm4 (Nat.not_lt_zero _)
    | succ fu4 ih4 =>
      intro i w hi hw hm4 ls hl
      have hp := cellsF_b hV (Bg i) hn
      have hq := mcF_b (Bg := Bg) hV hn i
      refine lv_iload_n hx hb dMo_mostCells_4 rfl (lv_at hl 0 rfl) ?_
      refine lv_aload_n hx hb dMo_mostCells_5 rfl (lv_at hl 2 rfl) ?_
      refine gf_Mo_68 Sf r 0 rfl rfl dMo_mostCells_6 ?_
      refine z_icmpge (tgt := 47) hx hb (by omega) (by omega) dMo_mostCells_9 (by decide) (fun c9 => ?_) (fun c9 => ?_)
      · skip
        refine lv_iload_n hx hb dMo_mostCells_47 rfl (lv_at hl 1 rfl) ?_
        exact hret _ _ _ dMo_mostCells_48 (by rw [hw, show i = n by omega])
      · skip
        refine lv_aload_n hx hb dMo_mostCells_12 rfl (lv_at hl 2 rfl) ?_
        refine lv_aload_n hx hb dMo_mostCells_13 rfl (lv_at hl 2 rfl) ?_
        refine gf_Mo_31 Sf r 0 rfl rfl dMo_mostCells_14 ?_
        refine lv_iload_n hx hb dMo_mostCells_17 rfl (lv_at hl 0 rfl) ?_
        refine z_iald hx hb r 2 (k := i) rfl (by omega) (by omega) dMo_mostCells_18 ?_
        refine z_rV (As := [.int (nI (Bg i))]) (rest := []) Sf (c_Mo_cells l G m0 av ab apl ase aco aen aor aba ali ale ach ast atw ats n stt nf mem kd sl fi tp th V (Bg i) (by first | assumption | omega) (hBg i)) mv_Mo_97 ⟨rfl, rfl⟩ ⟨Nat.le_of_ble_eq_true rfl, Nat.le_of_ble_eq_true rfl⟩ r [0, 1] rfl 0 rfl rfl rfl rfl hl.1 rfl (Nat.le_of_ble_eq_true rfl) dMo_mostCells_19 ⟨Nat.le_of_ble_eq_true rfl, Nat.le_of_ble_eq_true rfl⟩ ?_
        refine lv_iload_n hx hb dMo_mostCells_22 rfl (lv_at hl 1 rfl) ?_
        refine z_icmple (tgt := 39) hx hb (by omega) (by omega) dMo_mostCells_23 (by decide) (fun c23 => ?_) (fun c23 => ?_)
        · skip
          refine lv_iload_n hx hb dMo_mostCells_39 rfl (lv_at hl 1 rfl) ?_
          refine lv_istore_n (lv' := [(1, .int (nI w)), (2, .int (nI i)), (0, .ref m0)]) hx hb dMo_mostCells_40 rfl hl (by decide) rfl (fun ls hl => ?_)
          refine z_iinc (d := 1) (lv' := [(2, .int (nI (i + 1))), (1, .int (nI w)), (0, .ref m0)]) hx hb dMo_mostCells_41 hl (k := 1) rfl (by decide) (by decide) rfl (fun ls hl => ?_)
          refine lv_goto (tgt := 4) hx hb dMo_mostCells_44 (by decide) ?_
          refine ih4 (i + 1) _ ?_ ?_ ?_ ls (lv_sub hl [0, 1, 2] rfl)
          · omega
          · simp only [mcF]; rw [← hw]; omega
          · omega
        · skip
          refine lv_aload_n hx hb dMo_mostCells_26 rfl (lv_at hl 2 rfl) ?_
          refine lv_aload_n hx hb dMo_mostCells_27 rfl (lv_at hl 2 rfl) ?_
          refine gf_Mo_31 Sf r 0 rfl rfl dMo_mostCells_28 ?_
          refine lv_iload_n hx hb dMo_mostCells_31 rfl (lv_at hl 0 rfl) ?_
          refine z_iald hx hb r 2 (k := i) rfl (by omega) (by omega) dMo_mostCells_32 ?_
          refine z_rV (As := [.int (nI (Bg i))]) (rest := []) Sf (c_Mo_cells l G m0 av ab apl ase aco aen aor aba ali ale ach ast atw ats n stt nf mem kd sl fi tp th V (Bg i) (by first | assumption | omega) (hBg i)) mv_Mo_97 ⟨rfl, rfl⟩ ⟨Nat.le_of_ble_eq_true rfl, Nat.le_of_ble_eq_true rfl⟩ r [0, 1] rfl 0 rfl rfl rfl rfl hl.1 rfl (Nat.le_of_ble_eq_true rfl) dMo_mostCells_33 ⟨Nat.le_of_ble_eq_true rfl, Nat.le_of_ble_eq_true rfl⟩ ?_
          refine lv_goto (tgt := 40) hx hb dMo_mostCells_36 (by decide) ?_
          refine lv_istore_n (lv' := [(1, .int (nI (cellsF V (Bg i) n))), (2, .int (nI i)), (0, .ref m0)]) hx hb dMo_mostCells_40 rfl hl (by decide) rfl (fun ls hl => ?_)
          refine z_iinc (d := 1) (lv' := [(2, .int (nI (i + 1))), (1, .int (nI (cellsF V (Bg i) n))), (0, .ref m0)]) hx hb dMo_mostCells_41 hl (k := 1) rfl (by decide) (by decide) rfl (fun ls hl => ?_)
          refine lv_goto (tgt := 4) hx hb dMo_mostCells_44 (by decide) ?_
          refine ih4 (i + 1) (cellsF V (Bg i) n) ?_ ?_ ?_ ls (lv_sub hl [0, 1, 2] rfl)
          · omega
          · simp only [mcF]; rw [← hw]; omega
          · omega
  refine L4 ((n - 0) + 1) 0 0 ?_ ?_ ?_ ls (lv_sub hl [0, 1, 2] rfl)
  · omega
  · rfl
  · exact Nat.lt_succ_self _

def rm_Mo_pairs : Room := { frames := 1, cells := 0, slots := 0, locals := 40 }
set_option maxHeartbeats 4000000 in
set_option maxRecDepth 100000 in
theorem c_Mo_pairs (l : Launch) (G : zG) (m0 av ab apl ase aco aen aor aba ali ale ach ast atw ats : Nat) (n stt nf mem kd sl fi tp th : Nat) (Se Li : Nat → Nat) (hn : n ≤ 12) (hnf : nf ≤ 16) (hSe : ∀ i, Se i < 4096) (hLi : ∀ i, Li i < 4096) (sz : Nat) : Met l yMo_pairs (.code yMo_pairs cMo_pairs 3 (some .int) :: zT) rm_Mo_pairs (zPw G [.ref m0] [(m0, zO 7 [.int (nI n), .ref av, .ref ab, .ref apl, .int (nI stt), .int (nI nf), .ref ase, .ref aco, .ref aen, .int (nI mem), .int (nI kd), .int (nI sl), .ref aor, .ref aba, .int (nI fi), .ref ali, .ref ale, .ref ach, .ref ast, .ref atw, .ref ats, .int (nI tp), .int (nI th)]), (ase, zI G 16 (fun j => nI (Se j))), (ali, zI G 12 (fun j => nI (Li j)))] sz) (zQ (S := Unit) G (fun u => some (.int (nI (popS (drF Se nf) n / 2)))) (fun u => [(m0, zO 7 [.int (nI n), .ref av, .ref ab, .ref apl, .int (nI stt), .int (nI nf), .ref ase, .ref aco, .ref aen, .int (nI mem), .int (nI kd), .int (nI sl), .ref aor, .ref aba, .int (nI fi), .ref ali, .ref ale, .ref ach, .ref ast, .ref atw, .ref ats, .int (nI tp), .int (nI th)]), (ase, zI G 16 (fun j => nI (Se j))), (ali, zI G 12 (fun j => nI ((rowF Li (drF Se nf) n) j)))]) (va_A [(m0, zO 7 [.int (nI n), .ref av, .ref ab, .ref apl, .int (nI stt), .int (nI nf), .ref ase, .ref aco, .ref aen, .int (nI mem), .int (nI kd), .int (nI sl), .ref aor, .ref aba, .int (nI fi), .ref ali, .ref ale, .ref ach, .ref ast, .ref atw, .ref ats, .int (nI tp), .int (nI th)]), (ase, zI G 16 (fun j => nI (Se j))), (ali, zI G 12 (fun j => nI (Li j)))] sz) (fun u => True)) 0 0 (va_A [(m0, zO 7 [.int (nI n), .ref av, .ref ab, .ref apl, .int (nI stt), .int (nI nf), .ref ase, .ref aco, .ref aen, .int (nI mem), .int (nI kd), .int (nI sl), .ref aor, .ref aba, .int (nI fi), .ref ali, .ref ale, .ref ach, .ref ast, .ref atw, .ref ats, .int (nI tp), .int (nI th)]), (ase, zI G 16 (fun j => nI (Se j))), (ali, zI G 12 (fun j => nI (Li j)))] sz) := by
  refine z_metWi (by decide) (Nat.le_of_ble_eq_true rfl) (fun p e s m args below meth c ls A Q Sf hnm w hl hret => ?_)
  obtain ⟨H, hH⟩ : ∃ H, H = s.heap := ⟨_, rfl⟩
  obtain ⟨locs, hlo⟩ : ∃ L : List Loc, L = [] := ⟨_, rfl⟩
  rw [← hH, ← hlo] at w
  rw [← hH, ← hlo]
  clear hH hlo
  have Sf : CallFix p m c cMo_pairs 3 s args zT RMo := Sf
  have hx := Sf.1
  have hb := Sf.2.1
  have hown := Sf.2.2.2.1
  have hts := Sf.2.2.2.2
  have hl : lv_has ls 3 [(0, .ref m0)] := hl
  refine lv_aload_n hx hb dMo_pairs_0 rfl (lv_at hl 0 rfl) ?_
  refine z_wV (wr := []) (As := []) (rest := []) Sf (c_Mo_draw l G m0 av ab apl ase aco aen aor aba ali ale ach ast atw ats n stt nf mem kd sl fi tp th Se Li (by first | assumption | omega) (by first | assumption | omega) (by first | assumption | omega) H.size) mv_Mo_130 ⟨rfl, rfl⟩ ⟨Nat.le_of_ble_eq_true rfl, Nat.le_of_ble_eq_true rfl⟩ w [0, 1, 2] [] rfl rfl (by decide) (by decide) (by decide) 0 rfl rfl rfl rfl hl.1 rfl (Nat.le_of_ble_eq_true rfl) dMo_pairs_1 ⟨Nat.le_of_ble_eq_true rfl, Nat.le_of_ble_eq_true rfl⟩ (fun u1 H locs hu1 w => ?_)
  have w := w.eq (ws' := [(m0, zO 7 [.int (nI n), .ref av, .ref ab, .ref apl, .int (nI stt), .int (nI nf), .ref ase, .ref aco, .ref aen, .int (nI mem), .int (nI kd), .int (nI sl), .ref aor, .ref aba, .int (nI fi), .ref ali, .ref ale, .ref ach, .ref ast, .ref atw, .ref ats, .int (nI tp), .int (nI th)]), (ase, zI G 16 (fun j => nI (Se j))), (ali, zI G 12 (fun j => nI ((rowF Li (drF Se nf) n) j)))]) rfl
  refine W.eq (g2 := F0 m 4 ls []) rfl ?_
  refine lv_iconst (v := (nI 0)) hx hb dMo_pairs_4 (by decide) ?_
  refine lv_istore_n (lv' := [(1, .int (nI 0)), (0, .ref m0)]) hx hb dMo_pairs_5 rfl hl (by decide) rfl (fun ls hl => ?_)
  refine lv_iconst (v := (nI 0)) hx hb dMo_pairs_6 (by decide) ?_
  refine lv_istore_n (lv' := [(2, .int (nI 0)), (1, .int (nI 0)), (0, .ref m0)]) hx hb dMo_pairs_7 rfl hl (by decide) rfl (fun ls hl => ?_)
  have L8 : ∀ (fu8 : Nat) (i t : Nat), (i ≤ n) → (t = popS (rowF Li (drF Se nf) n) i) → (t ≤ 12 * i) → (n - i) < fu8 → ∀ (H : Heap) (locs : List Loc), zw G A s [(m0, zO 7 [.int (nI n), .ref av, .ref ab, .ref apl, .int (nI stt), .int (nI nf), .ref ase, .ref aco, .ref aen, .int (nI mem), .int (nI kd), .int (nI sl), .ref aor, .ref aba, .int (nI fi), .ref ali, .ref ale, .ref ach, .ref ast, .ref atw, .ref ats, .int (nI tp), .int (nI th)]), (ase, zI G 16 (fun j => nI (Se j))), (ali, zI G 12 (fun j => nI ((rowF Li (drF Se nf) n) j)))] H locs → ∀ (ls : Array Slot), lv_has ls 3 [(2, .int (nI i)), (1, .int (nI t)), (0, .ref m0)] → W p l e rm_Mo_pairs s m args below meth c H locs 0 0 Q (F0 m 8 ls []) := by
    intro fu8
    induction fu8 with
    | zero =>
      intro i t hi ht ht2 hm8
      exact absurd hm8 (Nat.not_lt_zero _)
    | succ fu8 ih8 =>
      intro i t hi ht ht2 hm8 H locs w ls hl
      have hb4 : rowF Li (drF Se nf) n i < 4096 := by
        unfold rowF
        split
        · exact drF_lt hSe nf i
        · exact hLi i
      have hp := popc_le _ hb4
      refine lv_iload_n hx hb dMo_pairs_8 rfl (lv_at hl 0 rfl) ?_
      refine lv_aload_n hx hb dMo_pairs_9 rfl (lv_at hl 2 rfl) ?_
      refine gf_Mo_68 Sf w.1 0 rfl rfl dMo_pairs_10 ?_
      refine z_icmpge (tgt := 34) hx hb (by omega) (by omega) dMo_pairs_13 (by decide) (fun c13 => ?_) (fun c13 => ?_)
      · skip
        refine lv_iload_n hx hb dMo_pairs_34 rfl (lv_at hl 1 rfl) ?_
        refine lv_iconst (v := (nI 2)) hx hb dMo_pairs_35 (by decide) ?_
        refine z_divN hx hb (by omega) (by omega) (by omega) dMo_pairs_36 ?_
        exact hret _ _ _ _ () _ _ w (rfl) (trivial) dMo_pairs_37 (by rw [ht, show i = n by omega, popS_congr n (fun j hj => rowF_lt hj)])
      · skip
        refine lv_iload_n hx hb dMo_pairs_16 rfl (lv_at hl 1 rfl) ?_
        refine lv_aload_n hx hb dMo_pairs_17 rfl (lv_at hl 2 rfl) ?_
        refine gf_Mo_34 Sf w.1 0 rfl rfl dMo_pairs_18 ?_
        refine lv_iload_n hx hb dMo_pairs_21 rfl (lv_at hl 0 rfl) ?_
        refine z_iald hx hb w.1 2 (k := i) rfl (by omega) (by omega) dMo_pairs_22 ?_
        refine z_rS (As := [.int (nI ((rowF Li (drF Se nf) n) i))]) (rest := [.int (nI t)]) Sf (c_Mo_many l G ((rowF Li (drF Se nf) n) i) hb4) mv_Mo_86 ⟨rfl, rfl⟩ ⟨Nat.le_of_ble_eq_true rfl, Nat.le_of_ble_eq_true rfl⟩ w.1 [] rfl rfl hl.1 rfl (Nat.le_of_ble_eq_true rfl) dMo_pairs_23 ⟨Nat.le_of_ble_eq_true rfl, Nat.le_of_ble_eq_true rfl⟩ ?_
        refine z_addN hx hb dMo_pairs_26 ?_
        refine lv_istore_n (lv' := [(1, .int (nI (t + (popc ((rowF Li (drF Se nf) n) i))))), (2, .int (nI i)), (0, .ref m0)]) hx hb dMo_pairs_27 rfl hl (by decide) rfl (fun ls hl => ?_)
        refine z_iinc (d := 1) (lv' := [(2, .int (nI (i + 1))), (1, .int (nI (t + (popc ((rowF Li (drF Se nf) n) i))))), (0, .ref m0)]) hx hb dMo_pairs_28 hl (k := 1) rfl (by decide) (by decide) rfl (fun ls hl => ?_)
        refine lv_goto (tgt := 8) hx hb dMo_pairs_31 (by decide) ?_
        refine ih8 (i + 1) (t + (popc ((rowF Li (drF Se nf) n) i))) ?_ ?_ ?_ ?_ _ _ w ls (lv_sub hl [0, 1, 2] rfl)
        · omega
        · rw [ht]; rfl
        · omega
        · omega
  refine L8 ((n - 0) + 1) 0 0 ?_ ?_ ?_ ?_ _ _ w ls (lv_sub hl [0, 1, 2] rfl)
  · omega
  · rfl
  · omega
  · exact Nat.lt_succ_self _

def rm_Mo_lay : Room := { frames := 0, cells := 0, slots := 0, locals := 0 }
set_option maxHeartbeats 4000000 in
set_option maxRecDepth 100000 in
theorem c_Mo_lay (l : Launch) (G : zG) (m0 av ab apl ase aco aen aor aba ali ale ach ast atw ats : Nat) (n stt nf mem kd sl fi tp th : Nat) (V Sx : Nat → Nat) (x : Nat) (hn : n ≤ 12) (hV0 : ∀ j, j < n → 0 < V j ∧ V j ≤ 4) (hx0 : x < 2 ^ 31) (sz : Nat) : Met l yMo_lay (.code yMo_lay cMo_lay 4 none :: zT) rm_Mo_lay (zPw G [.ref m0, .int (nI x)] [(m0, zO 7 [.int (nI n), .ref av, .ref ab, .ref apl, .int (nI stt), .int (nI nf), .ref ase, .ref aco, .ref aen, .int (nI mem), .int (nI kd), .int (nI sl), .ref aor, .ref aba, .int (nI fi), .ref ali, .ref ale, .ref ach, .ref ast, .ref atw, .ref ats, .int (nI tp), .int (nI th)]), (av, zI G 12 (fun j => nI (V j))), (ast, zI G 12 (fun j => nI (Sx j)))] sz) (zQ (S := Unit) G (fun u => none) (fun u => [(m0, zO 7 [.int (nI n), .ref av, .ref ab, .ref apl, .int (nI stt), .int (nI nf), .ref ase, .ref aco, .ref aen, .int (nI mem), .int (nI kd), .int (nI sl), .ref aor, .ref aba, .int (nI fi), .ref ali, .ref ale, .ref ach, .ref ast, .ref atw, .ref ats, .int (nI tp), .int (nI th)]), (av, zI G 12 (fun j => nI (V j))), (ast, zI G 12 (fun j => nI ((rowF Sx (valF V n x) n) j)))]) (va_A [(m0, zO 7 [.int (nI n), .ref av, .ref ab, .ref apl, .int (nI stt), .int (nI nf), .ref ase, .ref aco, .ref aen, .int (nI mem), .int (nI kd), .int (nI sl), .ref aor, .ref aba, .int (nI fi), .ref ali, .ref ale, .ref ach, .ref ast, .ref atw, .ref ats, .int (nI tp), .int (nI th)]), (av, zI G 12 (fun j => nI (V j))), (ast, zI G 12 (fun j => nI (Sx j)))] sz) (fun u => True)) 0 0 (va_A [(m0, zO 7 [.int (nI n), .ref av, .ref ab, .ref apl, .int (nI stt), .int (nI nf), .ref ase, .ref aco, .ref aen, .int (nI mem), .int (nI kd), .int (nI sl), .ref aor, .ref aba, .int (nI fi), .ref ali, .ref ale, .ref ach, .ref ast, .ref atw, .ref ats, .int (nI tp), .int (nI th)]), (av, zI G 12 (fun j => nI (V j))), (ast, zI G 12 (fun j => nI (Sx j)))] sz) := by
  refine z_metWv (by decide) (Nat.le_of_ble_eq_true rfl) (fun p e s m args below meth c ls A Q Sf hnm w hl hret => ?_)
  obtain ⟨H, hH⟩ : ∃ H, H = s.heap := ⟨_, rfl⟩
  obtain ⟨locs, hlo⟩ : ∃ L : List Loc, L = [] := ⟨_, rfl⟩
  rw [← hH, ← hlo] at w
  rw [← hH, ← hlo]
  clear hH hlo
  have Sf : CallFix p m c cMo_lay 4 s args zT RMo := Sf
  have hx := Sf.1
  have hb := Sf.2.1
  have hown := Sf.2.2.2.1
  have hts := Sf.2.2.2.2
  have hl : lv_has ls 4 [(0, .ref m0), (1, .int (nI x))] := hl
  refine lv_iload_n hx hb dMo_lay_0 rfl (lv_at hl 1 rfl) ?_
  refine lv_istore_n (lv' := [(2, .int (nI x)), (0, .ref m0), (1, .int (nI x))]) hx hb dMo_lay_1 rfl hl (by decide) rfl (fun ls hl => ?_)
  refine lv_aload_n hx hb dMo_lay_2 rfl (lv_at hl 1 rfl) ?_
  refine gf_Mo_68 Sf w.1 0 rfl rfl dMo_lay_3 ?_
  refine lv_iconst (v := (nI 1)) hx hb dMo_lay_6 (by decide) ?_
  refine z_subM hx hb dMo_lay_7 ?_
  refine lv_istore_n (lv' := [(3, .int (mI n)), (2, .int (nI x)), (0, .ref m0), (1, .int (nI x))]) hx hb dMo_lay_8 rfl hl (by decide) rfl (fun ls hl => ?_)
  have L9 : ∀ (fu9 : Nat) (t y : Nat) (F : Nat → Nat), (t ≤ n) → (y = restF V n x (n - t)) → (F = rowD Sx (valF V n x) n t) → (t) < fu9 → ∀ (H : Heap) (locs : List Loc), zw G A s [(m0, zO 7 [.int (nI n), .ref av, .ref ab, .ref apl, .int (nI stt), .int (nI nf), .ref ase, .ref aco, .ref aen, .int (nI mem), .int (nI kd), .int (nI sl), .ref aor, .ref aba, .int (nI fi), .ref ali, .ref ale, .ref ach, .ref ast, .ref atw, .ref ats, .int (nI tp), .int (nI th)]), (av, zI G 12 (fun j => nI (V j))), (ast, zI G 12 (fun j => nI (F j)))] H locs → ∀ (ls : Array Slot), lv_has ls 4 [(3, .int (mI t)), (2, .int (nI y)), (0, .ref m0), (1, .int (nI x))] → W p l e rm_Mo_lay s m args below meth c H locs 0 0 Q (F0 m 9 ls []) := by
    intro fu9
    induction fu9 with
    | zero =>
      intro t y F ht hy hF hm9
      exact absurd hm9 (Nat.not_lt_zero _)
    | succ fu9 ih9 =>
      intro t y F ht hy hF hm9 H locs w ls hl
      refine lv_iload_n hx hb dMo_lay_9 rfl (lv_at hl 0 rfl) ?_
      refine z_ifltM (tgt := 42) hx hb (by omega) dMo_lay_10 (by decide) (fun c10 => ?_) (fun c10 => ?_)
      · skip
        exact hret _ _ _ _ () _ w (by rw [hF, c10, rowD_0]) (trivial) dMo_lay_42 rfl
      · skip
        obtain ⟨t2, rfl⟩ : ∃ t2, t = t2 + 1 := ⟨t - 1, by omega⟩
        have hy2 : y < 2 ^ 31 := Nat.lt_of_le_of_lt (hy ▸ restF_le _) hx0
        have hv := hV0 t2 (by omega)
        have hl : lv_has ls 4 [(3, .int (nI t2)), (2, .int (nI y)), (0, .ref m0), (1, .int (nI x))] := by simpa only [mI_s] using hl
        refine lv_aload_n hx hb dMo_lay_13 rfl (lv_at hl 2 rfl) ?_
        refine gf_Mo_44 Sf w.1 0 rfl rfl dMo_lay_14 ?_
        refine lv_iload_n hx hb dMo_lay_17 rfl (lv_at hl 0 rfl) ?_
        refine lv_iload_n hx hb dMo_lay_18 rfl (lv_at hl 1 rfl) ?_
        refine lv_aload_n hx hb dMo_lay_19 rfl (lv_at hl 2 rfl) ?_
        refine gf_Mo_7 Sf w.1 0 rfl rfl dMo_lay_20 ?_
        refine lv_iload_n hx hb dMo_lay_23 rfl (lv_at hl 0 rfl) ?_
        refine z_iald hx hb w.1 1 (k := t2) rfl (by omega) (by omega) dMo_lay_24 ?_
        refine z_remN hx hb hy2 hv.1 (by omega) dMo_lay_25 ?_
        refine z_iastN hx hb w 2 (k := t2) rfl (by omega) (by omega) (ws' := [(m0, zO 7 [.int (nI n), .ref av, .ref ab, .ref apl, .int (nI stt), .int (nI nf), .ref ase, .ref aco, .ref aen, .int (nI mem), .int (nI kd), .int (nI sl), .ref aor, .ref aba, .int (nI fi), .ref ali, .ref ale, .ref ach, .ref ast, .ref atw, .ref ats, .int (nI tp), .int (nI th)]), (av, zI G 12 (fun j => nI (V j))), (ast, zI G 12 (fun j => nI ((va_up F t2 (y % (V t2))) j)))]) rfl dMo_lay_26 (fun H locs w => ?_)
        refine lv_iload_n hx hb dMo_lay_27 rfl (lv_at hl 1 rfl) ?_
        refine lv_aload_n hx hb dMo_lay_28 rfl (lv_at hl 2 rfl) ?_
        refine gf_Mo_7 Sf w.1 0 rfl rfl dMo_lay_29 ?_
        refine lv_iload_n hx hb dMo_lay_32 rfl (lv_at hl 0 rfl) ?_
        refine z_iald hx hb w.1 1 (k := t2) rfl (by omega) (by omega) dMo_lay_33 ?_
        refine z_divN hx hb hy2 hv.1 (by omega) dMo_lay_34 ?_
        refine lv_istore_n (lv' := [(2, .int (nI (y / (V t2)))), (3, .int (nI t2)), (0, .ref m0), (1, .int (nI x))]) hx hb dMo_lay_35 rfl hl (by decide) rfl (fun ls hl => ?_)
        refine lv_iinc (v := (mI t2)) (lv' := [(3, .int (mI t2)), (2, .int (nI (y / (V t2)))), (0, .ref m0), (1, .int (nI x))]) hx hb dMo_lay_36 hl (k := 1) rfl (mI_dec t2) (by decide) rfl (fun ls hl => ?_)
        refine lv_goto (tgt := 9) hx hb dMo_lay_39 (by decide) ?_
        refine ih9 t2 (y / (V t2)) (va_up F t2 (y % (V t2))) ?_ ?_ ?_ ?_ _ _ w ls (lv_sub hl [0, 1, 2, 3] rfl)
        · omega
        · rw [hy]; exact restF_s (by omega)
        · rw [hF, ← rowD_s _ _ (show t2 < n by omega), valF_eq, hy]
        · omega
  refine L9 ((n) + 1) n x Sx ?_ ?_ ?_ ?_ _ _ w ls (lv_sub hl [0, 1, 2, 3] rfl)
  · omega
  · rw [Nat.sub_self]; rfl
  · exact (rowD_n _ _ _).symm
  · exact Nat.lt_succ_self _

def rm_Mo_numberOf : Room := { frames := 0, cells := 0, slots := 0, locals := 0 }
set_option maxHeartbeats 4000000 in
set_option maxRecDepth 100000 in
theorem c_Mo_numberOf (l : Launch) (G : zG) (m0 av ab apl ase aco aen aor aba ali ale ach ast atw ats : Nat) (n stt nf mem kd sl fi tp th : Nat) (V Sx : Nat → Nat) (S : Nat) (hn : n ≤ 12) (hS : S < 4096) : Met l yMo_numberOf (.code yMo_numberOf cMo_numberOf 5 (some .int) :: zT) rm_Mo_numberOf (zPr G [.ref m0, .int (nI S)] [(m0, zO 7 [.int (nI n), .ref av, .ref ab, .ref apl, .int (nI stt), .int (nI nf), .ref ase, .ref aco, .ref aen, .int (nI mem), .int (nI kd), .int (nI sl), .ref aor, .ref aba, .int (nI fi), .ref ali, .ref ale, .ref ach, .ref ast, .ref atw, .ref ats, .int (nI tp), .int (nI th)]), (av, zI G 12 (fun j => nI (V j))), (ast, zI G 12 (fun j => nI (Sx j)))]) (k2_QcV (.int (nI (nmF Sx V S n)))) 0 0 (fun _ => False) := by
  refine z_metRi (by decide) (Nat.le_of_ble_eq_true rfl) (fun p e s m args below meth c ls Q Sf r hl hret => ?_)
  have Sf : CallFix p m c cMo_numberOf 5 s args zT RMo := Sf
  have hx := Sf.1
  have hb := Sf.2.1
  have hown := Sf.2.2.2.1
  have hts := Sf.2.2.2.2
  have hl : lv_has ls 5 [(0, .ref m0), (1, .int (nI S))] := hl
  refine lv_iconst (v := (nI 0)) hx hb dMo_numberOf_0 (by decide) ?_
  refine lv_istore_n (lv' := [(2, .int (nI 0)), (0, .ref m0), (1, .int (nI S))]) hx hb dMo_numberOf_1 rfl hl (by decide) rfl (fun ls hl => ?_)
  refine lv_iconst (v := (nI 1)) hx hb dMo_numberOf_2 (by decide) ?_
  refine lv_istore_n (lv' := [(3, .int (nI 1)), (2, .int (nI 0)), (0, .ref m0), (1, .int (nI S))]) hx hb dMo_numberOf_3 rfl hl (by decide) rfl (fun ls hl => ?_)
  refine lv_iconst (v := (nI 0)) hx hb dMo_numberOf_4 (by decide) ?_
  refine lv_istore (lv' := [(4, .int (nI 0)), (3, .int (nI 1)), (2, .int (nI 0)), (0, .ref m0), (1, .int (nI S))]) hx hb dMo_numberOf_5 hl (by decide) rfl (fun ls hl => ?_)
  have L7 : ∀ (fu7 : Nat) (i a b : Nat), (i ≤ n) → (a = nmF Sx V S i) → (b = cellsF V S i) → (n - i) < fu7 → ∀ (ls : Array Slot), lv_has ls 5 [(4, .int (nI i)), (3, .int (nI b)), (2, .int (nI a)), (0, .ref m0), (1, .int (nI S))] → W p l e rm_Mo_numberOf s m args below meth c s.heap [] 0 0 Q (F0 m 7 ls []) := by
    intro fu7
    induction fu7 with
    | zero =>
      intro i a b hi ha hbb hm7
      exact absurd hm7 (Nat.not_lt_zero _)
    | succ fu7 ih7 =>
      intro i a b hi ha hbb hm7 ls hl
      refine lv_iload hx hb dMo_numberOf_7 (lv_at hl 0 rfl) ?_
      refine lv_aload_n hx hb dMo_numberOf_9 rfl (lv_at hl 3 rfl) ?_
      refine gf_Mo_68 Sf r 0 rfl rfl dMo_numberOf_10 ?_
      refine z_icmpge (tgt := 54) hx hb (by omega) (by omega) dMo_numberOf_13 (by decide) (fun c13 => ?_) (fun c13 => ?_)
      · skip
        refine lv_iload_n hx hb dMo_numberOf_54 rfl (lv_at hl 2 rfl) ?_
        exact hret _ _ _ dMo_numberOf_55 (by rw [ha, show i = n by omega])
      · skip
        refine lv_iload_n hx hb dMo_numberOf_16 rfl (lv_at hl 4 rfl) ?_
        refine lv_iload hx hb dMo_numberOf_17 (lv_at hl 0 rfl) ?_
        refine z_shrN hx hb (by omega) (by omega) dMo_numberOf_19 ?_
        refine lv_iconst (v := (nI 1)) hx hb dMo_numberOf_20 (by decide) ?_
        refine z_and1 hx hb dMo_numberOf_21 ?_
        refine lv_iconst (v := (nI 1)) hx hb dMo_numberOf_22 (by decide) ?_
        refine z_icmpneSB (tgt := 48) hx hb dMo_numberOf_23 (by decide) (fun c23 => ?_) (fun c23 => ?_)
        · skip
          refine z_iinc (d := 1) (lv' := [(4, .int (nI (i + 1))), (3, .int (nI b)), (2, .int (nI a)), (0, .ref m0), (1, .int (nI S))]) hx hb dMo_numberOf_48 hl (k := 0) rfl (by decide) (by decide) rfl (fun ls hl => ?_)
          refine lv_goto (tgt := 7) hx hb dMo_numberOf_51 (by decide) ?_
          refine ih7 (i + 1) _ _ ?_ ?_ ?_ ?_ ls (lv_sub hl [0, 1, 2, 3, 4] rfl)
          · omega
          · first | (rw [nmF_t c23, ha, hbb]) | (rw [nmF_f c23, ha])
          · first | (rw [cellsF_t c23, hbb]) | (rw [cellsF_f c23, hbb])
          · omega
        · skip
          refine lv_iload_n hx hb dMo_numberOf_26 rfl (lv_at hl 2 rfl) ?_
          refine lv_iload_n hx hb dMo_numberOf_27 rfl (lv_at hl 1 rfl) ?_
          refine lv_aload_n hx hb dMo_numberOf_28 rfl (lv_at hl 3 rfl) ?_
          refine gf_Mo_44 Sf r 0 rfl rfl dMo_numberOf_29 ?_
          refine lv_iload hx hb dMo_numberOf_32 (lv_at hl 0 rfl) ?_
          refine z_iald hx hb r 2 (k := i) rfl (by omega) (by omega) dMo_numberOf_34 ?_
          refine z_mulN hx hb dMo_numberOf_35 ?_
          refine z_addN hx hb dMo_numberOf_36 ?_
          refine lv_istore_n (lv' := [(2, .int (nI (a + (b * (Sx i))))), (4, .int (nI i)), (3, .int (nI b)), (0, .ref m0), (1, .int (nI S))]) hx hb dMo_numberOf_37 rfl hl (by decide) rfl (fun ls hl => ?_)
          refine lv_iload_n hx hb dMo_numberOf_38 rfl (lv_at hl 2 rfl) ?_
          refine lv_aload_n hx hb dMo_numberOf_39 rfl (lv_at hl 3 rfl) ?_
          refine gf_Mo_7 Sf r 0 rfl rfl dMo_numberOf_40 ?_
          refine lv_iload hx hb dMo_numberOf_43 (lv_at hl 1 rfl) ?_
          refine z_iald hx hb r 1 (k := i) rfl (by omega) (by omega) dMo_numberOf_45 ?_
          refine z_mulN hx hb dMo_numberOf_46 ?_
          refine lv_istore_n (lv' := [(3, .int (nI (b * (V i)))), (2, .int (nI (a + (b * (Sx i))))), (4, .int (nI i)), (0, .ref m0), (1, .int (nI S))]) hx hb dMo_numberOf_47 rfl hl (by decide) rfl (fun ls hl => ?_)
          refine z_iinc (d := 1) (lv' := [(4, .int (nI (i + 1))), (3, .int (nI (b * (V i)))), (2, .int (nI (a + (b * (Sx i))))), (0, .ref m0), (1, .int (nI S))]) hx hb dMo_numberOf_48 hl (k := 2) rfl (by decide) (by decide) rfl (fun ls hl => ?_)
          refine lv_goto (tgt := 7) hx hb dMo_numberOf_51 (by decide) ?_
          refine ih7 (i + 1) (a + (b * (Sx i))) (b * (V i)) ?_ ?_ ?_ ?_ ls (lv_sub hl [0, 1, 2, 3, 4] rfl)
          · omega
          · first | (rw [nmF_t c23, ha, hbb]) | (rw [nmF_f c23, ha])
          · first | (rw [cellsF_t c23, hbb]) | (rw [cellsF_f c23, hbb])
          · omega
  refine L7 ((n - 0) + 1) 0 0 1 ?_ ?_ ?_ ?_ ls (lv_sub hl [0, 1, 2, 3, 4] rfl)
  · omega
  · rfl
  · rfl
  · exact Nat.lt_succ_self _

def rm_Mo_divisor : Room := { frames := 0, cells := 0, slots := 0, locals := 0 }
set_option maxHeartbeats 4000000 in
set_option maxRecDepth 100000 in
theorem c_Mo_divisor (l : Launch) (G : zG) (a b : Nat) (ha : a < 2 ^ 63) (hb0 : b < 2 ^ 63) : Met l yMo_divisor (.code yMo_divisor cMo_divisor 10 (some .long) :: zT) rm_Mo_divisor (zPr G [.long (lN a), .long (lN b)] []) (k2_QcV (.long (lN (Nat.gcd a b)))) 0 0 (fun _ => False) := by
  refine z_metRl (by decide) (Nat.le_of_ble_eq_true rfl) (fun p e s m args below meth c ls Q Sf r hl hret => ?_)
  have Sf : CallFix p m c cMo_divisor 10 s args zT RMo := Sf
  have hx := Sf.1
  have hb := Sf.2.1
  have hown := Sf.2.2.2.1
  have hts := Sf.2.2.2.2
  have hl : lv_has ls 10 [(0, .long (lN a)), (2, .long (lN b))] := hl
  refine lv_lload_n hx hb dMo_divisor_0 rfl (lv_at hl 0 rfl) ?_
  refine lv_lstore (lv' := [(4, .long (lN a)), (0, .long (lN a)), (2, .long (lN b))]) hx hb dMo_divisor_1 hl (by decide) rfl (fun ls hl => ?_)
  refine lv_lload_n hx hb dMo_divisor_3 rfl (lv_at hl 2 rfl) ?_
  refine lv_lstore (lv' := [(6, .long (lN b)), (4, .long (lN a)), (0, .long (lN a)), (2, .long (lN b))]) hx hb dMo_divisor_4 hl (by decide) rfl (fun ls hl => ?_)
  have L6 : ∀ (fu6 : Nat) (x y : Nat), (x < 2 ^ 63) → (y < 2 ^ 63) → (Nat.gcd x y = Nat.gcd a b) → (y) < fu6 → ∀ (ls : Array Slot), lv_has ls 10 [(6, .long (lN y)), (4, .long (lN x)), (0, .long (lN a)), (2, .long (lN b))] → W p l e rm_Mo_divisor s m args below meth c s.heap [] 0 0 Q (F0 m 6 ls []) := by
    intro fu6
    induction fu6 with
    | zero =>
      intro x y hx0 hy hg hm6
      exact absurd hm6 (Nat.not_lt_zero _)
    | succ fu6 ih6 =>
      intro x y hx0 hy hg hm6 ls hl
      refine lv_lload hx hb dMo_divisor_6 (lv_at hl 0 rfl) ?_
      refine lv_lconst (v := lN 0) hx hb dMo_divisor_8 (by decide) ?_
      refine W.lcmp hx hb dMo_divisor_9 ?_
      refine z_lceqN (tgt := 31) hx hb hy (by decide) dMo_divisor_10 (by decide) (fun c10 => ?_) (fun c10 => ?_)
      · skip
        refine lv_lload hx hb dMo_divisor_31 (lv_at hl 1 rfl) ?_
        exact hret _ _ _ dMo_divisor_33 (by rw [← hg, c10, Nat.gcd_zero_right])
      · skip
        refine lv_lload hx hb dMo_divisor_13 (lv_at hl 1 rfl) ?_
        refine lv_lload hx hb dMo_divisor_15 (lv_at hl 0 rfl) ?_
        refine z_lremN hx hb hx0 (Nat.pos_of_ne_zero c10) hy dMo_divisor_17 ?_
        refine lv_lstore (lv' := [(8, .long (lN (x % y))), (6, .long (lN y)), (4, .long (lN x)), (0, .long (lN a)), (2, .long (lN b))]) hx hb dMo_divisor_18 hl (by decide) rfl (fun ls hl => ?_)
        refine lv_lload hx hb dMo_divisor_20 (lv_at hl 1 rfl) ?_
        refine lv_lstore (lv' := [(4, .long (lN y)), (8, .long (lN (x % y))), (6, .long (lN y)), (0, .long (lN a)), (2, .long (lN b))]) hx hb dMo_divisor_22 hl (by decide) rfl (fun ls hl => ?_)
        refine lv_lload hx hb dMo_divisor_24 (lv_at hl 1 rfl) ?_
        refine lv_lstore (lv' := [(6, .long (lN (x % y))), (4, .long (lN y)), (8, .long (lN (x % y))), (0, .long (lN a)), (2, .long (lN b))]) hx hb dMo_divisor_26 hl (by decide) rfl (fun ls hl => ?_)
        refine lv_goto (tgt := 6) hx hb dMo_divisor_28 (by decide) ?_
        refine ih6 y (x % y) ?_ ?_ ?_ ?_ ls (lv_sub hl [0, 1, 3, 4] rfl)
        · exact hy
        · exact Nat.lt_trans (Nat.mod_lt _ (Nat.pos_of_ne_zero c10)) hy
        · rw [← hg, Nat.gcd_comm x y, Nat.gcd_rec y x, Nat.gcd_comm]
        · have := Nat.mod_lt x (Nat.pos_of_ne_zero c10)
          omega
  refine L6 ((b) + 1) a b ?_ ?_ ?_ ?_ ls (lv_sub hl [0, 1, 2, 3] rfl)
  · exact ha
  · exact hb0
  · rfl
  · exact Nat.lt_succ_self _

def rm_Mo_pick : Room := { frames := 1, cells := 0, slots := 0, locals := 50 }
set_option maxHeartbeats 4000000 in
set_option maxRecDepth 100000 in
theorem c_Mo_pick (l : Launch) (G : zG) (m0 av ab apl ase aco aen aor aba ali ale ach ast atw ats : Nat) (n stt nf mem kd sl fi tp th : Nat) (V Li : Nat → Nat) (how o : Nat) (hn : n ≤ 12) (hV : ∀ j, V j ≤ 4) (hLi : ∀ i, Li i < 4096) (hho : how < 10) (ho : o < 4096) : Met l yMo_pick (.code yMo_pick cMo_pick 7 (some .int) :: zT) rm_Mo_pick (zPr G [.ref m0, .int (nI how), .int (nI o)] [(m0, zO 7 [.int (nI n), .ref av, .ref ab, .ref apl, .int (nI stt), .int (nI nf), .ref ase, .ref aco, .ref aen, .int (nI mem), .int (nI kd), .int (nI sl), .ref aor, .ref aba, .int (nI fi), .ref ali, .ref ale, .ref ach, .ref ast, .ref atw, .ref ats, .int (nI tp), .int (nI th)]), (av, zI G 12 (fun j => nI (V j))), (ali, zI G 12 (fun j => nI (Li j)))]) (k2_QcV (.int (mI ((pkF (pkC V Li n how) o n).1)))) 0 0 (fun _ => False) := by
  refine z_metRi (by decide) (Nat.le_of_ble_eq_true rfl) (fun p e s m args below meth c ls Q Sf r hl hret => ?_)
  have Sf : CallFix p m c cMo_pick 7 s args zT RMo := Sf
  have hx := Sf.1
  have hb := Sf.2.1
  have hown := Sf.2.2.2.1
  have hts := Sf.2.2.2.2
  have hl : lv_has ls 7 [(0, .ref m0), (1, .int (nI how)), (2, .int (nI o))] := hl
  refine lv_iconst (v := (mI 0)) hx hb dMo_pick_0 (by decide) ?_
  refine lv_istore_n (lv' := [(3, .int (mI 0)), (0, .ref m0), (1, .int (nI how)), (2, .int (nI o))]) hx hb dMo_pick_1 rfl hl (by decide) rfl (fun ls hl => ?_)
  refine lv_iconst (v := (nI 0)) hx hb dMo_pick_2 (by decide) ?_
  refine lv_istore (lv' := [(4, .int (nI 0)), (3, .int (mI 0)), (0, .ref m0), (1, .int (nI how)), (2, .int (nI o))]) hx hb dMo_pick_3 hl (by decide) rfl (fun ls hl => ?_)
  refine lv_iconst (v := (nI 0)) hx hb dMo_pick_5 (by decide) ?_
  refine lv_istore (lv' := [(5, .int (nI 0)), (4, .int (nI 0)), (3, .int (mI 0)), (0, .ref m0), (1, .int (nI how)), (2, .int (nI o))]) hx hb dMo_pick_6 hl (by decide) rfl (fun ls hl => ?_)
  have L8 : ∀ (fu8 : Nat) (i b q : Nat), (i ≤ n) → ((b, q) = pkF (pkC V Li n how) o i) → (b ≤ 12) → (q ≤ 16777216) → (n - i) < fu8 → ∀ (ls : Array Slot), lv_has ls 7 [(5, .int (nI i)), (4, .int (nI q)), (3, .int (mI b)), (0, .ref m0), (1, .int (nI how)), (2, .int (nI o))] → W p l e rm_Mo_pick s m args below meth c s.heap [] 0 0 Q (F0 m 8 ls []) := by
    intro fu8
    induction fu8 with
    | zero =>
      intro i b q hi hbb hbn hq hm8
      exact absurd hm8 (Nat.not_lt_zero _)
    | succ fu8 ih8 =>
      intro i b q hi hbb hbn hq hm8 ls hl
      refine lv_iload hx hb dMo_pick_8 (lv_at hl 0 rfl) ?_
      refine lv_aload_n hx hb dMo_pick_10 rfl (lv_at hl 3 rfl) ?_
      refine gf_Mo_68 Sf r 0 rfl rfl dMo_pick_11 ?_
      refine z_icmpge (tgt := 101) hx hb (by omega) (by omega) dMo_pick_14 (by decide) (fun c14 => ?_) (fun c14 => ?_)
      · skip
        refine lv_iload_n hx hb dMo_pick_101 rfl (lv_at hl 2 rfl) ?_
        exact hret _ _ _ dMo_pick_102 (by obtain rfl : i = n := (by omega); rw [← hbb])
      · skip
        refine lv_iload_n hx hb dMo_pick_17 rfl (lv_at hl 5 rfl) ?_
        refine lv_iload hx hb dMo_pick_18 (lv_at hl 0 rfl) ?_
        refine z_shrN hx hb (by omega) (by omega) dMo_pick_20 ?_
        refine lv_iconst (v := (nI 1)) hx hb dMo_pick_21 (by decide) ?_
        refine z_and1 hx hb dMo_pick_22 ?_
        refine z_ifneSB (tgt := 95) hx hb dMo_pick_23 (by decide) (fun c23 => ?_) (fun c23 => ?_)
        · skip
          refine z_iinc (d := 1) (lv' := [(5, .int (nI (i + 1))), (4, .int (nI q)), (3, .int (mI b)), (0, .ref m0), (1, .int (nI how)), (2, .int (nI o))]) hx hb dMo_pick_95 hl (k := 0) rfl (by decide) (by decide) rfl (fun ls hl => ?_)
          refine lv_goto (tgt := 8) hx hb dMo_pick_98 (by decide) ?_
          refine ih8 (i + 1) _ _ ?_ ?_ ?_ ?_ ?_ ls (lv_sub hl [0, 1, 2, 3, 4, 5] rfl)
          · omega
          · first | (rw [pkF_o c23, ← hbb]; done) | (rw [pkF_t c23 (by rw [← hbb]; first | exact Or.inl c78 | exact Or.inr (by rw [hco]; exact c85)), hco]; done) | (rw [pkF_f c23 (by rw [← hbb, hco]; rintro (h | h); exact c78 h; exact absurd h (by omega)), ← hbb])
          · omega
          · omega
          · omega
        · skip
          have L74 : ∀ (cst : Nat), (pkC V Li n how i = cst) → (cst ≤ 16777216) → ∀ (ls : Array Slot), lv_has ls 7 [(5, .int (nI i)), (4, .int (nI q)), (3, .int (mI b)), (0, .ref m0), (1, .int (nI how)), (2, .int (nI o))] → W p l e rm_Mo_pick s m args below meth c s.heap [] 0 0 Q (F0 m 74 ls [.int (nI cst)]) := by
            intro cst hco hcb ls hl
            refine lv_istore (lv' := [(6, .int (nI cst)), (5, .int (nI i)), (4, .int (nI q)), (3, .int (mI b)), (0, .ref m0), (1, .int (nI how)), (2, .int (nI o))]) hx hb dMo_pick_74 hl (by decide) rfl (fun ls hl => ?_)
            refine lv_iload_n hx hb dMo_pick_76 rfl (lv_at hl 3 rfl) ?_
            refine lv_iconst (v := (mI 0)) hx hb dMo_pick_77 (by decide) ?_
            refine z_icmpeqMM (tgt := 88) hx hb (by omega) (by omega) dMo_pick_78 (by decide) (fun c78 => ?_) (fun c78 => ?_)
            · skip
              refine lv_iload hx hb dMo_pick_88 (lv_at hl 1 rfl) ?_
              refine lv_istore_n (lv' := [(3, .int (nI i)), (6, .int (nI cst)), (5, .int (nI i)), (4, .int (nI q)), (0, .ref m0), (1, .int (nI how)), (2, .int (nI o))]) hx hb dMo_pick_90 rfl hl (by decide) rfl (fun ls hl => ?_)
              refine lv_iload hx hb dMo_pick_91 (lv_at hl 1 rfl) ?_
              refine lv_istore (lv' := [(4, .int (nI cst)), (3, .int (nI i)), (6, .int (nI cst)), (5, .int (nI i)), (0, .ref m0), (1, .int (nI how)), (2, .int (nI o))]) hx hb dMo_pick_93 hl (by decide) rfl (fun ls hl => ?_)
              refine z_iinc (d := 1) (lv' := [(5, .int (nI (i + 1))), (4, .int (nI cst)), (3, .int (nI i)), (6, .int (nI cst)), (0, .ref m0), (1, .int (nI how)), (2, .int (nI o))]) hx hb dMo_pick_95 hl (k := 3) rfl (by decide) (by decide) rfl (fun ls hl => ?_)
              refine lv_goto (tgt := 8) hx hb dMo_pick_98 (by decide) ?_
              have hl : lv_has ls 7 [(5, .int (nI (i + 1))), (4, .int (nI cst)), (3, .int (mI (i + 1))), (6, .int (nI cst)), (0, .ref m0), (1, .int (nI how)), (2, .int (nI o))] := by simpa only [mI_s] using hl
              refine ih8 (i + 1) (i + 1) cst ?_ ?_ ?_ ?_ ?_ ls (lv_sub hl [0, 1, 2, 4, 5, 6] rfl)
              · omega
              · first | (rw [pkF_o c23, ← hbb]; done) | (rw [pkF_t c23 (by rw [← hbb]; first | exact Or.inl c78 | exact Or.inr (by rw [hco]; exact c85)), hco]; done) | (rw [pkF_f c23 (by rw [← hbb, hco]; rintro (h | h); exact c78 h; exact absurd h (by omega)), ← hbb])
              · omega
              · omega
              · omega
            · skip
              refine lv_iload hx hb dMo_pick_81 (lv_at hl 0 rfl) ?_
              refine lv_iload hx hb dMo_pick_83 (lv_at hl 2 rfl) ?_
              refine z_icmpge (tgt := 95) hx hb (by omega) (by omega) dMo_pick_85 (by decide) (fun c85 => ?_) (fun c85 => ?_)
              · skip
                refine z_iinc (d := 1) (lv' := [(5, .int (nI (i + 1))), (6, .int (nI cst)), (4, .int (nI q)), (3, .int (mI b)), (0, .ref m0), (1, .int (nI how)), (2, .int (nI o))]) hx hb dMo_pick_95 hl (k := 1) rfl (by decide) (by decide) rfl (fun ls hl => ?_)
                refine lv_goto (tgt := 8) hx hb dMo_pick_98 (by decide) ?_
                refine ih8 (i + 1) _ _ ?_ ?_ ?_ ?_ ?_ ls (lv_sub hl [0, 2, 3, 4, 5, 6] rfl)
                · omega
                · first | (rw [pkF_o c23, ← hbb]; done) | (rw [pkF_t c23 (by rw [← hbb]; first | exact Or.inl c78 | exact Or.inr (by rw [hco]; exact c85)), hco]; done) | (rw [pkF_f c23 (by rw [← hbb, hco]; rintro (h | h); exact c78 h; exact absurd h (by omega)), ← hbb])
                · omega
                · omega
                · omega
              · skip
                refine lv_iload hx hb dMo_pick_88 (lv_at hl 1 rfl) ?_
                refine lv_istore_n (lv' := [(3, .int (nI i)), (6, .int (nI cst)), (5, .int (nI i)), (4, .int (nI q)), (0, .ref m0), (1, .int (nI how)), (2, .int (nI o))]) hx hb dMo_pick_90 rfl hl (by decide) rfl (fun ls hl => ?_)
                refine lv_iload hx hb dMo_pick_91 (lv_at hl 1 rfl) ?_
                refine lv_istore (lv' := [(4, .int (nI cst)), (3, .int (nI i)), (6, .int (nI cst)), (5, .int (nI i)), (0, .ref m0), (1, .int (nI how)), (2, .int (nI o))]) hx hb dMo_pick_93 hl (by decide) rfl (fun ls hl => ?_)
                refine z_iinc (d := 1) (lv' := [(5, .int (nI (i + 1))), (4, .int (nI cst)), (3, .int (nI i)), (6, .int (nI cst)), (0, .ref m0), (1, .int (nI how)), (2, .int (nI o))]) hx hb dMo_pick_95 hl (k := 3) rfl (by decide) (by decide) rfl (fun ls hl => ?_)
                refine lv_goto (tgt := 8) hx hb dMo_pick_98 (by decide) ?_
                have hl : lv_has ls 7 [(5, .int (nI (i + 1))), (4, .int (nI cst)), (3, .int (mI (i + 1))), (6, .int (nI cst)), (0, .ref m0), (1, .int (nI how)), (2, .int (nI o))] := by simpa only [mI_s] using hl
                refine ih8 (i + 1) (i + 1) cst ?_ ?_ ?_ ?_ ?_ ls (lv_sub hl [0, 1, 2, 4, 5, 6] rfl)
                · omega
                · first | (rw [pkF_o c23, ← hbb]; done) | (rw [pkF_t c23 (by rw [← hbb]; first | exact Or.inl c78 | exact Or.inr (by rw [hco]; exact c85)), hco]; done) | (rw [pkF_f c23 (by rw [← hbb, hco]; rintro (h | h); exact c78 h; exact absurd h (by omega)), ← hbb])
                · omega
                · omega
                · omega
          refine lv_iload_n hx hb dMo_pick_26 rfl (lv_at hl 4 rfl) ?_
          refine lv_iconst (v := (nI 2)) hx hb dMo_pick_27 (by decide) ?_
          refine z_icmpne (tgt := 44) hx hb (by omega) (by omega) dMo_pick_28 (by decide) (fun c28 => ?_) (fun c28 => ?_)
          · skip
            refine lv_iload_n hx hb dMo_pick_44 rfl (lv_at hl 4 rfl) ?_
            refine lv_iconst (v := (nI 3)) hx hb dMo_pick_45 (by decide) ?_
            refine z_icmpne (tgt := 58) hx hb (by omega) (by omega) dMo_pick_46 (by decide) (fun c46 => ?_) (fun c46 => ?_)
            · skip
              refine lv_aload_n hx hb dMo_pick_58 rfl (lv_at hl 3 rfl) ?_
              refine lv_aload_n hx hb dMo_pick_59 rfl (lv_at hl 3 rfl) ?_
              refine gf_Mo_34 Sf r 0 rfl rfl dMo_pick_60 ?_
              refine lv_iload hx hb dMo_pick_63 (lv_at hl 0 rfl) ?_
              refine z_iald hx hb r 2 (k := i) rfl (by omega) (by omega) dMo_pick_65 ?_
              refine lv_iconst (v := (nI 1)) hx hb dMo_pick_66 (by decide) ?_
              refine lv_iload hx hb dMo_pick_67 (lv_at hl 0 rfl) ?_
              refine z_shl1 hx hb (by omega) dMo_pick_69 ?_
              refine z_orN hx hb dMo_pick_70 ?_
              refine z_rV (As := [.int (nI ((Li i) ||| (2 ^ i)))]) (rest := []) Sf (c_Mo_cells l G m0 av ab apl ase aco aen aor aba ali ale ach ast atw ats n stt nf mem kd sl fi tp th V ((Li i) ||| (2 ^ i)) (by first | assumption | omega) (or_lt (hLi i) (pw_lt (by omega)))) mv_Mo_97 ⟨rfl, rfl⟩ ⟨Nat.le_of_ble_eq_true rfl, Nat.le_of_ble_eq_true rfl⟩ r [0, 1] rfl 0 rfl rfl rfl rfl hl.1 rfl (Nat.le_of_ble_eq_true rfl) dMo_pick_71 ⟨Nat.le_of_ble_eq_true rfl, Nat.le_of_ble_eq_true rfl⟩ ?_
              refine L74 (cellsF V ((Li i) ||| (2 ^ i)) n) ?_ ?_ ls (lv_sub hl [0, 1, 2, 3, 4, 5] rfl)
              · unfold pkC; first | (rw [if_pos c28]; done) | (rw [if_neg c28, if_pos c46]; done) | (rw [if_neg c28, if_neg c46])
              · first | exact Nat.le_trans (popc_le _ (hLi i)) (by decide) | exact Nat.le_trans (filF_le n) (Nat.le_trans (Nat.mul_le_mul hn hn) (by decide)) | exact cellsF_b hV _ hn
            · skip
              refine lv_aload_n hx hb dMo_pick_49 rfl (lv_at hl 3 rfl) ?_
              refine lv_iload hx hb dMo_pick_50 (lv_at hl 0 rfl) ?_
              refine z_rV (As := [.int (nI i)]) (rest := []) Sf (c_Mo_fill l G m0 av ab apl ase aco aen aor aba ali ale ach ast atw ats n stt nf mem kd sl fi tp th Li i (by first | assumption | omega) (by omega) (by first | assumption | omega)) mv_Mo_116 ⟨rfl, rfl⟩ ⟨Nat.le_of_ble_eq_true rfl, Nat.le_of_ble_eq_true rfl⟩ r [0, 2] rfl 0 rfl rfl rfl rfl hl.1 rfl (Nat.le_of_ble_eq_true rfl) dMo_pick_52 ⟨Nat.le_of_ble_eq_true rfl, Nat.le_of_ble_eq_true rfl⟩ ?_
              refine lv_goto (tgt := 74) hx hb dMo_pick_55 (by decide) ?_
              refine L74 (filF Li i n) ?_ ?_ ls (lv_sub hl [0, 1, 2, 3, 4, 5] rfl)
              · unfold pkC; first | (rw [if_pos c28]; done) | (rw [if_neg c28, if_pos c46]; done) | (rw [if_neg c28, if_neg c46])
              · first | exact Nat.le_trans (popc_le _ (hLi i)) (by decide) | exact Nat.le_trans (filF_le n) (Nat.le_trans (Nat.mul_le_mul hn hn) (by decide)) | exact cellsF_b hV _ hn
          · skip
            refine lv_aload_n hx hb dMo_pick_31 rfl (lv_at hl 3 rfl) ?_
            refine gf_Mo_34 Sf r 0 rfl rfl dMo_pick_32 ?_
            refine lv_iload hx hb dMo_pick_35 (lv_at hl 0 rfl) ?_
            refine z_iald hx hb r 2 (k := i) rfl (by omega) (by omega) dMo_pick_37 ?_
            refine z_rS (As := [.int (nI (Li i))]) (rest := []) Sf (c_Mo_many l G (Li i) (hLi i)) mv_Mo_86 ⟨rfl, rfl⟩ ⟨Nat.le_of_ble_eq_true rfl, Nat.le_of_ble_eq_true rfl⟩ r [] rfl rfl hl.1 rfl (Nat.le_of_ble_eq_true rfl) dMo_pick_38 ⟨Nat.le_of_ble_eq_true rfl, Nat.le_of_ble_eq_true rfl⟩ ?_
            refine lv_goto (tgt := 74) hx hb dMo_pick_41 (by decide) ?_
            refine L74 (popc (Li i)) ?_ ?_ ls (lv_sub hl [0, 1, 2, 3, 4, 5] rfl)
            · unfold pkC; first | (rw [if_pos c28]; done) | (rw [if_neg c28, if_pos c46]; done) | (rw [if_neg c28, if_neg c46])
            · first | exact Nat.le_trans (popc_le _ (hLi i)) (by decide) | exact Nat.le_trans (filF_le n) (Nat.le_trans (Nat.mul_le_mul hn hn) (by decide)) | exact cellsF_b hV _ hn
  refine L8 ((n - 0) + 1) 0 0 0 ?_ ?_ ?_ ?_ ?_ ls (lv_sub hl [0, 1, 2, 3, 4, 5] rfl)
  · omega
  · rfl
  · omega
  · omega
  · exact Nat.lt_succ_self _
