def rm_Seq_placesHaveEachOnce : Room := { frames := 1, cells := 0, slots := 0, locals := 20 }
set_option maxHeartbeats 4000000 in
set_option maxRecDepth 100000 in
theorem c_Seq_placesHaveEachOnce (l : Launch) (G : zG) (sq sr pl na ba : Nat) (g av an : Nat) (n : Nat) (st : Int32) (kd wd fi ci mx kn : Nat) (Pl : Nat → Nat) (hn : n ≤ 12) (hPl : ∀ i, Pl i ≤ 12) : Met l ySq_placesHaveEachOnce (.code ySq_placesHaveEachOnce cSq_placesHaveEachOnce 3 (some .boolean) :: zT) rm_Seq_placesHaveEachOnce (zPr G [.ref sq] [(sq, zO 4 [.ref g, .ref sr, .ref pl, .ref na, .ref ba, .int (nI kd), .int (mI wd), .int (nI fi), .int (nI ci), .int (nI mx), .int (nI kn)]), (g, zO 2 [.ref av, .ref an, .int (nI n), .int st]), (pl, zI G 12 (fun j => mI (Pl j)))]) (k2_QcV (.int (bI (poF Pl n = 2 ^ n - 1)))) 0 0 (fun _ => False) := by
  refine z_metRz (by decide) (Nat.le_of_ble_eq_true rfl) (fun p e s m args below meth c ls Q Sf r hl hret => ?_)
  have Sf : CallFix p m c cSq_placesHaveEachOnce 3 s args zT RSq := Sf
  have hx := Sf.1
  have hb := Sf.2.1
  have hown := Sf.2.2.2.1
  have hts := Sf.2.2.2.2
  have hl : lv_has ls 3 [(0, .ref sq)] := hl
  refine lv_iconst (v := (nI 0)) hx hb dSq_placesHaveEachOnce_0 (by decide) ?_
  refine lv_istore_n (lv' := [(1, .int (nI 0)), (0, .ref sq)]) hx hb dSq_placesHaveEachOnce_1 rfl hl (by decide) rfl (fun ls hl => ?_)
  refine lv_iconst (v := (nI 0)) hx hb dSq_placesHaveEachOnce_2 (by decide) ?_
  refine lv_istore_n (lv' := [(2, .int (nI 0)), (1, .int (nI 0)), (0, .ref sq)]) hx hb dSq_placesHaveEachOnce_3 rfl hl (by decide) rfl (fun ls hl => ?_)
  have L4 : ∀ (fu4 : Nat) (i sn : Nat), (i ≤ n) → (sn = poF Pl i) → (sn < 4096) → (n - i) < fu4 → ∀ (ls : Array Slot), lv_has ls 3 [(2, .int (nI i)), (1, .int (nI sn)), (0, .ref sq)] → W p l e rm_Seq_placesHaveEachOnce s m args below meth c s.heap [] 0 0 Q (F0 m 4 ls []) := by
    intro fu4
    induction fu4 with
    | zero =>
      intro i sn hi ha hs hm4
      exact absurd hm4 (Nat.not_lt_zero _)
    | succ fu4 ih4 =>
      intro i sn hi ha hs hm4 ls hl
      have hp := hPl i
      refine lv_iload_n hx hb dSq_placesHaveEachOnce_4 rfl (lv_at hl 0 rfl) ?_
      refine lv_aload_n hx hb dSq_placesHaveEachOnce_5 rfl (lv_at hl 2 rfl) ?_
      refine gf_Sq_21 Sf r 0 rfl rfl dSq_placesHaveEachOnce_6 ?_
      refine gf_Sq_40 Sf r 1 rfl rfl dSq_placesHaveEachOnce_9 ?_
      refine z_icmpge (tgt := 42) hx hb (by omega) (by omega) dSq_placesHaveEachOnce_12 (by decide) (fun c12 => ?_) (fun c12 => ?_)
      · skip
        have h2m : 2 ^ n ≤ 4096 := Nat.pow_le_pow_right (by decide) hn
        have ha2 : poF Pl n = sn := by rw [ha, show i = n by omega]
        refine lv_iload_n hx hb dSq_placesHaveEachOnce_42 rfl (lv_at hl 1 rfl) ?_
        refine lv_aload_n hx hb dSq_placesHaveEachOnce_43 rfl (lv_at hl 2 rfl) ?_
        refine gf_Sq_21 Sf r 0 rfl rfl dSq_placesHaveEachOnce_44 ?_
        refine z_rV (As := []) (rest := [.int (nI sn)]) Sf (c_Graph_everyName l G g av an n st (by first | assumption | omega)) mv_Sq_46 ⟨rfl, rfl⟩ ⟨Nat.le_of_ble_eq_true rfl, Nat.le_of_ble_eq_true rfl⟩ r [1] rfl 1 rfl rfl rfl rfl hl.1 rfl (Nat.le_of_ble_eq_true rfl) dSq_placesHaveEachOnce_47 ⟨Nat.le_of_ble_eq_true rfl, Nat.le_of_ble_eq_true rfl⟩ ?_
        refine z_icmpne (tgt := 57) hx hb (by omega) (by omega) dSq_placesHaveEachOnce_50 (by decide) (fun c50 => ?_) (fun c50 => ?_)
        · skip
          refine lv_iconst (v := (nI 0)) hx hb dSq_placesHaveEachOnce_57 (by decide) ?_
          exact hret _ _ _ dSq_placesHaveEachOnce_58 (bI_f (by rw [ha2]; exact c50))
        · skip
          refine lv_iconst (v := (nI 1)) hx hb dSq_placesHaveEachOnce_53 (by decide) ?_
          refine lv_goto (tgt := 58) hx hb dSq_placesHaveEachOnce_54 (by decide) ?_
          exact hret _ _ _ dSq_placesHaveEachOnce_58 (bI_t (by rw [ha2]; exact c50))
      · skip
        refine lv_aload_n hx hb dSq_placesHaveEachOnce_15 rfl (lv_at hl 2 rfl) ?_
        refine gf_Sq_9 Sf r 0 rfl rfl dSq_placesHaveEachOnce_16 ?_
        refine lv_iload_n hx hb dSq_placesHaveEachOnce_19 rfl (lv_at hl 0 rfl) ?_
        refine z_iald hx hb r 2 (k := i) rfl (by omega) (by omega) dSq_placesHaveEachOnce_20 ?_
        refine lv_iconst (v := (mI 0)) hx hb dSq_placesHaveEachOnce_21 (by decide) ?_
        refine z_icmpeqMM (tgt := 36) hx hb (by omega) (by omega) dSq_placesHaveEachOnce_22 (by decide) (fun c22 => ?_) (fun c22 => ?_)
        · skip
          refine z_iinc (d := 1) (lv' := [(2, .int (nI (i + 1))), (1, .int (nI sn)), (0, .ref sq)]) hx hb dSq_placesHaveEachOnce_36 hl (k := 0) rfl (by decide) (by decide) rfl (fun ls hl => ?_)
          refine lv_goto (tgt := 4) hx hb dSq_placesHaveEachOnce_39 (by decide) ?_
          refine ih4 (i + 1) _ ?_ ?_ ?_ ?_ ls (lv_sub hl [0, 1, 2] rfl)
          · omega
          · first | (rw [poF_0 c22, ha]; done) | (rw [poF_1 c22, ha])
          · first | exact hs | exact or_lt hs (pw_lt (by omega))
          · omega
        · skip
          refine lv_iload_n hx hb dSq_placesHaveEachOnce_25 rfl (lv_at hl 1 rfl) ?_
          refine lv_iconst (v := (nI 1)) hx hb dSq_placesHaveEachOnce_26 (by decide) ?_
          refine lv_aload_n hx hb dSq_placesHaveEachOnce_27 rfl (lv_at hl 2 rfl) ?_
          refine gf_Sq_9 Sf r 0 rfl rfl dSq_placesHaveEachOnce_28 ?_
          refine lv_iload_n hx hb dSq_placesHaveEachOnce_31 rfl (lv_at hl 0 rfl) ?_
          refine z_iald hx hb r 2 (k := i) rfl (by omega) (by omega) dSq_placesHaveEachOnce_32 ?_
          rw [mI_p c22]
          refine z_shl1 hx hb (by omega) dSq_placesHaveEachOnce_33 ?_
          refine z_orN hx hb dSq_placesHaveEachOnce_34 ?_
          refine lv_istore_n (lv' := [(1, .int (nI (sn ||| (2 ^ (Pl i - 1))))), (2, .int (nI i)), (0, .ref sq)]) hx hb dSq_placesHaveEachOnce_35 rfl hl (by decide) rfl (fun ls hl => ?_)
          refine z_iinc (d := 1) (lv' := [(2, .int (nI (i + 1))), (1, .int (nI (sn ||| (2 ^ (Pl i - 1))))), (0, .ref sq)]) hx hb dSq_placesHaveEachOnce_36 hl (k := 1) rfl (by decide) (by decide) rfl (fun ls hl => ?_)
          refine lv_goto (tgt := 4) hx hb dSq_placesHaveEachOnce_39 (by decide) ?_
          refine ih4 (i + 1) (sn ||| (2 ^ (Pl i - 1))) ?_ ?_ ?_ ?_ ls (lv_sub hl [0, 1, 2] rfl)
          · omega
          · first | (rw [poF_0 c22, ha]; done) | (rw [poF_1 c22, ha])
          · first | exact hs | exact or_lt hs (pw_lt (by omega))
          · omega
  refine L4 ((n - 0) + 1) 0 0 ?_ ?_ ?_ ?_ ls (lv_sub hl [0, 1, 2] rfl)
  · omega
  · rfl
  · omega
  · exact Nat.lt_succ_self _

def rm_Seq_forget : Room := { frames := 1, cells := 0, slots := 0, locals := 20 }
set_option maxHeartbeats 4000000 in
set_option maxRecDepth 100000 in
theorem c_Seq_forget (l : Launch) (G : zG) (sq sr pl na ba g kd wd fi ci mx kn fo ce le kn2 cn : Nat)  (sz : Nat) : Met l ySq_forget (.code ySq_forget cSq_forget 1 none :: zT) rm_Seq_forget (zPw G [.ref sq] [(sq, zO 4 [.ref g, .ref sr, .ref pl, .ref na, .ref ba, .int (nI kd), .int (mI wd), .int (nI fi), .int (nI ci), .int (nI mx), .int (nI kn)]), (sr, zO 3 [.ref g, .ref fo, .ref ce, .ref le, .int (nI cn), .int (nI kn2)])] sz) (zQ (S := Unit) G (fun u => none) (fun u => [(sq, zO 4 [.ref g, .ref sr, .ref pl, .ref na, .ref ba, .int (nI kd), .int (mI wd), .int (nI fi), .int (nI ci), .int (nI mx), .int (nI 0)]), (sr, zO 3 [.ref g, .ref fo, .ref ce, .ref le, .int (nI cn), .int (nI 0)])]) (va_A [(sq, zO 4 [.ref g, .ref sr, .ref pl, .ref na, .ref ba, .int (nI kd), .int (mI wd), .int (nI fi), .int (nI ci), .int (nI mx), .int (nI kn)]), (sr, zO 3 [.ref g, .ref fo, .ref ce, .ref le, .int (nI cn), .int (nI kn2)])] sz) (fun u => True)) 0 0 (va_A [(sq, zO 4 [.ref g, .ref sr, .ref pl, .ref na, .ref ba, .int (nI kd), .int (mI wd), .int (nI fi), .int (nI ci), .int (nI mx), .int (nI kn)]), (sr, zO 3 [.ref g, .ref fo, .ref ce, .ref le, .int (nI cn), .int (nI kn2)])] sz) := by
  refine z_metWv (by decide) (Nat.le_of_ble_eq_true rfl) (fun p e s m args below meth c ls A Q Sf hnm w hl hret => ?_)
  obtain ⟨H, hH⟩ : ∃ H, H = s.heap := ⟨_, rfl⟩
  obtain ⟨locs, hlo⟩ : ∃ L : List Loc, L = [] := ⟨_, rfl⟩
  rw [← hH, ← hlo] at w
  rw [← hH, ← hlo]
  clear hH hlo
  have Sf : CallFix p m c cSq_forget 1 s args zT RSq := Sf
  have hx := Sf.1
  have hb := Sf.2.1
  have hown := Sf.2.2.2.1
  have hts := Sf.2.2.2.2
  have hl : lv_has ls 1 [(0, .ref sq)] := hl
  refine lv_aload_n hx hb dSq_forget_0 rfl (lv_at hl 0 rfl) ?_
  refine lv_iconst (v := (nI 0)) hx hb dSq_forget_1 (by decide) ?_
  refine pf_Sq_50 Sf w 0 rfl rfl rfl (Nat.le_of_ble_eq_true rfl) (ws' := [(sq, zO 4 [.ref g, .ref sr, .ref pl, .ref na, .ref ba, .int (nI kd), .int (mI wd), .int (nI fi), .int (nI ci), .int (nI mx), .int (nI 0)]), (sr, zO 3 [.ref g, .ref fo, .ref ce, .ref le, .int (nI cn), .int (nI kn2)])]) rfl dSq_forget_2 (fun H locs w => ?_)
  refine lv_aload_n hx hb dSq_forget_5 rfl (lv_at hl 0 rfl) ?_
  refine gf_Sq_30 Sf w.1 0 rfl rfl dSq_forget_6 ?_
  refine z_wV (wr := [(sq, zO 4 [.ref g, .ref sr, .ref pl, .ref na, .ref ba, .int (nI kd), .int (mI wd), .int (nI fi), .int (nI ci), .int (nI mx), .int (nI 0)])]) (As := []) (rest := []) Sf (c_Search_forget l G sr g fo ce le kn2 cn  H.size) mv_Sq_54 ⟨rfl, rfl⟩ ⟨Nat.le_of_ble_eq_true rfl, Nat.le_of_ble_eq_true rfl⟩ w [1] [0] rfl rfl (by decide) (by decide) (by decide) 1 rfl rfl rfl rfl hl.1 rfl (Nat.le_of_ble_eq_true rfl) dSq_forget_9 ⟨Nat.le_of_ble_eq_true rfl, Nat.le_of_ble_eq_true rfl⟩ (fun u1 H locs hu1 w => ?_)
  have w := w.eq (ws' := [(sq, zO 4 [.ref g, .ref sr, .ref pl, .ref na, .ref ba, .int (nI kd), .int (mI wd), .int (nI fi), .int (nI ci), .int (nI mx), .int (nI 0)]), (sr, zO 3 [.ref g, .ref fo, .ref ce, .ref le, .int (nI cn), .int (nI 0)])]) rfl
  refine W.eq (g2 := F0 m 12 ls []) rfl ?_
  exact hret _ _ _ _ () _ w (rfl) (trivial) dSq_forget_12 rfl

def rm_Seq_takeAllOut : Room := { frames := 3, cells := 0, slots := 0, locals := 104 }
set_option maxHeartbeats 4000000 in
set_option maxRecDepth 100000 in
theorem c_Seq_takeAllOut (l : Launch) (G : zG) (sq sr pl na ba : Nat) (g av an : Nat) (n : Nat) (st : Int32) (kd wd fi ci mx kn : Nat) (V Nb Od Bg : Nat → Nat) (hn : n ≤ 12) (hN : ∀ i, Nb i < 4096) (hV : ∀ j, V j ≤ 4) (hOd : ∀ i, i < n → Od i < n) (sz : Nat) : Met l ySq_takeAllOut (.code ySq_takeAllOut cSq_takeAllOut 5 none :: zT) rm_Seq_takeAllOut (zPw G [.ref sq] [(sq, zO 4 [.ref g, .ref sr, .ref pl, .ref na, .ref ba, .int (nI kd), .int (mI wd), .int (nI fi), .int (nI ci), .int (nI mx), .int (nI kn)]), (g, zO 2 [.ref av, .ref an, .int (nI n), .int st]), (av, zI G 12 (fun j => nI (V j))), (an, zI G 12 (fun j => nI (Nb j))), (na, zI G 12 (fun j => nI (Od j))), (ba, zI G 12 (fun j => nI (Bg j)))] sz) (zQ (S := Unit) G (fun u => none) (fun u => [(sq, zO 4 [.ref g, .ref sr, .ref pl, .ref na, .ref ba, .int (nI kd), .int (mI (wdF (bgC Nb n Od) n)), .int (nI (flC Nb n Od n)), .int (nI (sumF (fun i => cellsF V (bgC Nb n Od i) n) n)), .int (nI (mcF V (bgC Nb n Od) n n)), .int (nI 1)]), (g, zO 2 [.ref av, .ref an, .int (nI n), .int st]), (av, zI G 12 (fun j => nI (V j))), (an, zI G 12 (fun j => nI (Nb j))), (na, zI G 12 (fun j => nI (Od j))), (ba, zI G 12 (fun j => nI ((rowF Bg (bgC Nb n Od) n) j)))]) (va_A [(sq, zO 4 [.ref g, .ref sr, .ref pl, .ref na, .ref ba, .int (nI kd), .int (mI wd), .int (nI fi), .int (nI ci), .int (nI mx), .int (nI kn)]), (g, zO 2 [.ref av, .ref an, .int (nI n), .int st]), (av, zI G 12 (fun j => nI (V j))), (an, zI G 12 (fun j => nI (Nb j))), (na, zI G 12 (fun j => nI (Od j))), (ba, zI G 12 (fun j => nI (Bg j)))] sz) (fun u => True)) 0 0 (va_A [(sq, zO 4 [.ref g, .ref sr, .ref pl, .ref na, .ref ba, .int (nI kd), .int (mI wd), .int (nI fi), .int (nI ci), .int (nI mx), .int (nI kn)]), (g, zO 2 [.ref av, .ref an, .int (nI n), .int st]), (av, zI G 12 (fun j => nI (V j))), (an, zI G 12 (fun j => nI (Nb j))), (na, zI G 12 (fun j => nI (Od j))), (ba, zI G 12 (fun j => nI (Bg j)))] sz) := by
  refine z_metWv (by decide) (Nat.le_of_ble_eq_true rfl) (fun p e s m args below meth c ls A Q Sf hnm w hl hret => ?_)
  obtain ⟨H, hH⟩ : ∃ H, H = s.heap := ⟨_, rfl⟩
  obtain ⟨locs, hlo⟩ : ∃ L : List Loc, L = [] := ⟨_, rfl⟩
  rw [← hH, ← hlo] at w
  rw [← hH, ← hlo]
  clear hH hlo
  have Sf : CallFix p m c cSq_takeAllOut 5 s args zT RSq := Sf
  have hx := Sf.1
  have hb := Sf.2.1
  have hown := Sf.2.2.2.1
  have hts := Sf.2.2.2.2
  have hl : lv_has ls 5 [(0, .ref sq)] := hl
  refine lv_aload_n hx hb dSq_takeAllOut_0 rfl (lv_at hl 0 rfl) ?_
  refine lv_iconst (v := (mI 0)) hx hb dSq_takeAllOut_1 (by decide) ?_
  refine pf_Sq_95 Sf w 0 rfl rfl rfl (Nat.le_of_ble_eq_true rfl) (ws' := [(sq, zO 4 [.ref g, .ref sr, .ref pl, .ref na, .ref ba, .int (nI kd), .int (mI 0), .int (nI fi), .int (nI ci), .int (nI mx), .int (nI kn)]), (g, zO 2 [.ref av, .ref an, .int (nI n), .int st]), (av, zI G 12 (fun j => nI (V j))), (an, zI G 12 (fun j => nI (Nb j))), (na, zI G 12 (fun j => nI (Od j))), (ba, zI G 12 (fun j => nI (Bg j)))]) rfl dSq_takeAllOut_2 (fun H locs w => ?_)
  refine lv_aload_n hx hb dSq_takeAllOut_5 rfl (lv_at hl 0 rfl) ?_
  refine lv_iconst (v := (nI 0)) hx hb dSq_takeAllOut_6 (by decide) ?_
  refine pf_Sq_98 Sf w 0 rfl rfl rfl (Nat.le_of_ble_eq_true rfl) (ws' := [(sq, zO 4 [.ref g, .ref sr, .ref pl, .ref na, .ref ba, .int (nI kd), .int (mI 0), .int (nI 0), .int (nI ci), .int (nI mx), .int (nI kn)]), (g, zO 2 [.ref av, .ref an, .int (nI n), .int st]), (av, zI G 12 (fun j => nI (V j))), (an, zI G 12 (fun j => nI (Nb j))), (na, zI G 12 (fun j => nI (Od j))), (ba, zI G 12 (fun j => nI (Bg j)))]) rfl dSq_takeAllOut_7 (fun H locs w => ?_)
  refine lv_aload_n hx hb dSq_takeAllOut_10 rfl (lv_at hl 0 rfl) ?_
  refine lv_iconst (v := (nI 0)) hx hb dSq_takeAllOut_11 (by decide) ?_
  refine pf_Sq_101 Sf w 0 rfl rfl rfl (Nat.le_of_ble_eq_true rfl) (ws' := [(sq, zO 4 [.ref g, .ref sr, .ref pl, .ref na, .ref ba, .int (nI kd), .int (mI 0), .int (nI 0), .int (nI 0), .int (nI mx), .int (nI kn)]), (g, zO 2 [.ref av, .ref an, .int (nI n), .int st]), (av, zI G 12 (fun j => nI (V j))), (an, zI G 12 (fun j => nI (Nb j))), (na, zI G 12 (fun j => nI (Od j))), (ba, zI G 12 (fun j => nI (Bg j)))]) rfl dSq_takeAllOut_12 (fun H locs w => ?_)
  refine lv_aload_n hx hb dSq_takeAllOut_15 rfl (lv_at hl 0 rfl) ?_
  refine lv_iconst (v := (nI 0)) hx hb dSq_takeAllOut_16 (by decide) ?_
  refine pf_Sq_104 Sf w 0 rfl rfl rfl (Nat.le_of_ble_eq_true rfl) (ws' := [(sq, zO 4 [.ref g, .ref sr, .ref pl, .ref na, .ref ba, .int (nI kd), .int (mI 0), .int (nI 0), .int (nI 0), .int (nI 0), .int (nI kn)]), (g, zO 2 [.ref av, .ref an, .int (nI n), .int st]), (av, zI G 12 (fun j => nI (V j))), (an, zI G 12 (fun j => nI (Nb j))), (na, zI G 12 (fun j => nI (Od j))), (ba, zI G 12 (fun j => nI (Bg j)))]) rfl dSq_takeAllOut_17 (fun H locs w => ?_)
  refine lv_iconst (v := (nI 0)) hx hb dSq_takeAllOut_20 (by decide) ?_
  refine lv_istore_n (lv' := [(1, .int (nI 0)), (0, .ref sq)]) hx hb dSq_takeAllOut_21 rfl hl (by decide) rfl (fun ls hl => ?_)
  refine lv_iconst (v := (nI 0)) hx hb dSq_takeAllOut_22 (by decide) ?_
  refine lv_istore_n (lv' := [(2, .int (nI 0)), (1, .int (nI 0)), (0, .ref sq)]) hx hb dSq_takeAllOut_23 rfl hl (by decide) rfl (fun ls hl => ?_)
  have L24 : ∀ (fu24 : Nat) (gone i w1 f1 c1 m1 : Nat) (F : Nat → Nat), (i ≤ n) → (gone = goF Od i) → (w1 = wdF (bgC Nb n Od) i) → (w1 ≤ 12) → (f1 = flC Nb n Od i) → (c1 = sumF (fun i => cellsF V (bgC Nb n Od i) n) i) → (m1 = mcF V (bgC Nb n Od) n i) → (m1 ≤ 16777216) → (F = rowF Bg (bgC Nb n Od) i) → (n - i) < fu24 → ∀ (H : Heap) (locs : List Loc), zw G A s [(sq, zO 4 [.ref g, .ref sr, .ref pl, .ref na, .ref ba, .int (nI kd), .int (mI w1), .int (nI f1), .int (nI c1), .int (nI m1), .int (nI kn)]), (g, zO 2 [.ref av, .ref an, .int (nI n), .int st]), (av, zI G 12 (fun j => nI (V j))), (an, zI G 12 (fun j => nI (Nb j))), (na, zI G 12 (fun j => nI (Od j))), (ba, zI G 12 (fun j => nI (F j)))] H locs → ∀ (ls : Array Slot), lv_has ls 5 [(2, .int (nI i)), (1, .int (nI gone)), (0, .ref sq)] → W p l e rm_Seq_takeAllOut s m args below meth c H locs 0 0 Q (F0 m 24 ls []) := by
    intro fu24
    induction fu24 with
    | zero =>
      intro gone i w1 f1 c1 m1 F hi hgo hw1 hw2 hf1 hc1 hm1 hm2 hF hm24
      exact absurd hm24 (Nat.not_lt_zero _)
    | succ fu24 ih24 =>
      intro gone i w1 f1 c1 m1 F hi hgo hw1 hw2 hf1 hc1 hm1 hm2 hF hm24 H locs w ls hl
      refine lv_iload_n hx hb dSq_takeAllOut_24 rfl (lv_at hl 0 rfl) ?_
      refine lv_aload_n hx hb dSq_takeAllOut_25 rfl (lv_at hl 2 rfl) ?_
      refine gf_Sq_21 Sf w.1 0 rfl rfl dSq_takeAllOut_26 ?_
      refine gf_Sq_40 Sf w.1 1 rfl rfl dSq_takeAllOut_29 ?_
      refine z_icmpge (tgt := 143) hx hb (by omega) (by omega) dSq_takeAllOut_32 (by decide) (fun c32 => ?_) (fun c32 => ?_)
      · skip
        refine lv_aload_n hx hb dSq_takeAllOut_143 rfl (lv_at hl 2 rfl) ?_
        refine lv_iconst (v := (nI 1)) hx hb dSq_takeAllOut_144 (by decide) ?_
        refine pf_Sq_50 Sf w 0 rfl rfl rfl (Nat.le_of_ble_eq_true rfl) (ws' := [(sq, zO 4 [.ref g, .ref sr, .ref pl, .ref na, .ref ba, .int (nI kd), .int (mI w1), .int (nI f1), .int (nI c1), .int (nI m1), .int (nI 1)]), (g, zO 2 [.ref av, .ref an, .int (nI n), .int st]), (av, zI G 12 (fun j => nI (V j))), (an, zI G 12 (fun j => nI (Nb j))), (na, zI G 12 (fun j => nI (Od j))), (ba, zI G 12 (fun j => nI (F j)))]) rfl dSq_takeAllOut_145 (fun H locs w => ?_)
        exact hret _ _ _ _ () _ w (by rw [hF, hw1, hf1, hc1, hm1, show i = n by omega]) (trivial) dSq_takeAllOut_148 rfl
      · skip
        have ho := hOd i (by omega)
        have hbg : bagF Nb n (Od i) gone < 4096 := bagF_lt hN (by omega)
        have hpp := popc_le _ hbg
        have hcc := cellsF_b hV (bagF Nb n (Od i) gone) hn
        refine lv_aload_n hx hb dSq_takeAllOut_35 rfl (lv_at hl 2 rfl) ?_
        refine gf_Sq_21 Sf w.1 0 rfl rfl dSq_takeAllOut_36 ?_
        refine lv_aload_n hx hb dSq_takeAllOut_39 rfl (lv_at hl 2 rfl) ?_
        refine gf_Sq_15 Sf w.1 0 rfl rfl dSq_takeAllOut_40 ?_
        refine lv_iload_n hx hb dSq_takeAllOut_43 rfl (lv_at hl 0 rfl) ?_
        refine z_iald hx hb w.1 4 (k := i) rfl (by omega) (by omega) dSq_takeAllOut_44 ?_
        refine lv_iload_n hx hb dSq_takeAllOut_45 rfl (lv_at hl 1 rfl) ?_
        refine z_rV (As := [.int (nI (Od i)), .int (nI gone)]) (rest := []) Sf (c_Graph_bagOf l G g av an n st Nb (Od i) gone (by first | assumption | omega) ho (by first | assumption | omega)) mv_Sq_83 ⟨rfl, rfl⟩ ⟨Nat.le_of_ble_eq_true rfl, Nat.le_of_ble_eq_true rfl⟩ w.1 [1, 3] rfl 1 rfl rfl rfl rfl hl.1 rfl (Nat.le_of_ble_eq_true rfl) dSq_takeAllOut_46 ⟨Nat.le_of_ble_eq_true rfl, Nat.le_of_ble_eq_true rfl⟩ ?_
        refine lv_istore_n (lv' := [(3, .int (nI (bagF Nb n (Od i) gone))), (2, .int (nI i)), (1, .int (nI gone)), (0, .ref sq)]) hx hb dSq_takeAllOut_49 rfl hl (by decide) rfl (fun ls hl => ?_)
        refine lv_aload_n hx hb dSq_takeAllOut_50 rfl (lv_at hl 3 rfl) ?_
        refine gf_Sq_21 Sf w.1 0 rfl rfl dSq_takeAllOut_51 ?_
        refine lv_iload_n hx hb dSq_takeAllOut_54 rfl (lv_at hl 0 rfl) ?_
        refine z_rV (As := [.int (nI (bagF Nb n (Od i) gone))]) (rest := []) Sf (c_Graph_cellsOf l G g av an n st V (bagF Nb n (Od i) gone) (by first | assumption | omega) (by first | assumption | omega)) mv_Sq_92 ⟨rfl, rfl⟩ ⟨Nat.le_of_ble_eq_true rfl, Nat.le_of_ble_eq_true rfl⟩ w.1 [1, 2] rfl 1 rfl rfl rfl rfl hl.1 rfl (Nat.le_of_ble_eq_true rfl) dSq_takeAllOut_55 ⟨Nat.le_of_ble_eq_true rfl, Nat.le_of_ble_eq_true rfl⟩ ?_
        refine lv_istore (lv' := [(4, .int (nI (cellsF V (bagF Nb n (Od i) gone) n))), (3, .int (nI (bagF Nb n (Od i) gone))), (2, .int (nI i)), (1, .int (nI gone)), (0, .ref sq)]) hx hb dSq_takeAllOut_58 hl (by decide) rfl (fun ls hl => ?_)
        refine lv_aload_n hx hb dSq_takeAllOut_60 rfl (lv_at hl 4 rfl) ?_
        refine gf_Sq_18 Sf w.1 0 rfl rfl dSq_takeAllOut_61 ?_
        refine lv_iload_n hx hb dSq_takeAllOut_64 rfl (lv_at hl 2 rfl) ?_
        refine lv_iload_n hx hb dSq_takeAllOut_65 rfl (lv_at hl 1 rfl) ?_
        refine z_iastN hx hb w 5 (k := i) rfl (by omega) (by omega) (ws' := [(sq, zO 4 [.ref g, .ref sr, .ref pl, .ref na, .ref ba, .int (nI kd), .int (mI w1), .int (nI f1), .int (nI c1), .int (nI m1), .int (nI kn)]), (g, zO 2 [.ref av, .ref an, .int (nI n), .int st]), (av, zI G 12 (fun j => nI (V j))), (an, zI G 12 (fun j => nI (Nb j))), (na, zI G 12 (fun j => nI (Od j))), (ba, zI G 12 (fun j => nI ((va_up F i (bagF Nb n (Od i) gone)) j)))]) rfl dSq_takeAllOut_66 (fun H locs w => ?_)
        refine lv_aload_n hx hb dSq_takeAllOut_67 rfl (lv_at hl 4 rfl) ?_
        refine lv_aload_n hx hb dSq_takeAllOut_68 rfl (lv_at hl 4 rfl) ?_
        refine gf_Sq_95 Sf w.1 0 rfl rfl dSq_takeAllOut_69 ?_
        refine lv_iload_n hx hb dSq_takeAllOut_72 rfl (lv_at hl 1 rfl) ?_
        refine z_rS (As := [.int (nI (bagF Nb n (Od i) gone))]) (rest := [.int (mI w1), .ref sq]) Sf (c_bitCount l G (bagF Nb n (Od i) gone) hbg) mv_Sq_86 ⟨rfl, rfl⟩ ⟨Nat.le_of_ble_eq_true rfl, Nat.le_of_ble_eq_true rfl⟩ w.1 [] rfl rfl hl.1 rfl (Nat.le_of_ble_eq_true rfl) dSq_takeAllOut_73 ⟨Nat.le_of_ble_eq_true rfl, Nat.le_of_ble_eq_true rfl⟩ ?_
        refine lv_iconst (v := (nI 1)) hx hb dSq_takeAllOut_76 (by decide) ?_
        refine z_subM hx hb dSq_takeAllOut_77 ?_
        refine z_mmaxZ Sf mv_Sq_107 hl.1 ⟨Nat.le_of_ble_eq_true rfl, Nat.le_of_ble_eq_true rfl⟩ (Nat.le_of_ble_eq_true rfl) ⟨Nat.le_of_ble_eq_true rfl, Nat.le_of_ble_eq_true rfl⟩ dSq_takeAllOut_78 ?_
        rw [mxM (by omega) (by omega)]
        refine pf_Sq_95 Sf w 0 rfl rfl rfl (Nat.le_of_ble_eq_true rfl) (ws' := [(sq, zO 4 [.ref g, .ref sr, .ref pl, .ref na, .ref ba, .int (nI kd), .int (mI (max w1 (popc (bagF Nb n (Od i) gone)))), .int (nI f1), .int (nI c1), .int (nI m1), .int (nI kn)]), (g, zO 2 [.ref av, .ref an, .int (nI n), .int st]), (av, zI G 12 (fun j => nI (V j))), (an, zI G 12 (fun j => nI (Nb j))), (na, zI G 12 (fun j => nI (Od j))), (ba, zI G 12 (fun j => nI ((va_up F i (bagF Nb n (Od i) gone)) j)))]) rfl dSq_takeAllOut_81 (fun H locs w => ?_)
        refine lv_aload_n hx hb dSq_takeAllOut_84 rfl (lv_at hl 4 rfl) ?_
        refine lv_dup hx hb dSq_takeAllOut_85 rfl ?_
        refine gf_Sq_98 Sf w.1 0 rfl rfl dSq_takeAllOut_86 ?_
        refine lv_aload_n hx hb dSq_takeAllOut_89 rfl (lv_at hl 4 rfl) ?_
        refine gf_Sq_21 Sf w.1 0 rfl rfl dSq_takeAllOut_90 ?_
        refine lv_iload_n hx hb dSq_takeAllOut_93 rfl (lv_at hl 1 rfl) ?_
        refine lv_iload_n hx hb dSq_takeAllOut_94 rfl (lv_at hl 3 rfl) ?_
        refine z_rV (As := [.int (nI (bagF Nb n (Od i) gone)), .int (nI gone)]) (rest := [.int (nI f1), .ref sq]) Sf (c_Graph_fillOf l G g av an n st Nb (bagF Nb n (Od i) gone) gone (by first | assumption | omega) hbg (by first | assumption | omega)) mv_Sq_89 ⟨rfl, rfl⟩ ⟨Nat.le_of_ble_eq_true rfl, Nat.le_of_ble_eq_true rfl⟩ w.1 [1, 3] rfl 1 rfl rfl rfl rfl hl.1 rfl (Nat.le_of_ble_eq_true rfl) dSq_takeAllOut_95 ⟨Nat.le_of_ble_eq_true rfl, Nat.le_of_ble_eq_true rfl⟩ ?_
        refine z_addN hx hb dSq_takeAllOut_98 ?_
        refine pf_Sq_98 Sf w 0 rfl rfl rfl (Nat.le_of_ble_eq_true rfl) (ws' := [(sq, zO 4 [.ref g, .ref sr, .ref pl, .ref na, .ref ba, .int (nI kd), .int (mI (max w1 (popc (bagF Nb n (Od i) gone)))), .int (nI (f1 + (fillS Nb n (bagF Nb n (Od i) gone) gone n / 2))), .int (nI c1), .int (nI m1), .int (nI kn)]), (g, zO 2 [.ref av, .ref an, .int (nI n), .int st]), (av, zI G 12 (fun j => nI (V j))), (an, zI G 12 (fun j => nI (Nb j))), (na, zI G 12 (fun j => nI (Od j))), (ba, zI G 12 (fun j => nI ((va_up F i (bagF Nb n (Od i) gone)) j)))]) rfl dSq_takeAllOut_99 (fun H locs w => ?_)
        refine lv_aload_n hx hb dSq_takeAllOut_102 rfl (lv_at hl 4 rfl) ?_
        refine lv_dup hx hb dSq_takeAllOut_103 rfl ?_
        refine gf_Sq_101 Sf w.1 0 rfl rfl dSq_takeAllOut_104 ?_
        refine lv_iload hx hb dSq_takeAllOut_107 (lv_at hl 0 rfl) ?_
        refine z_addN hx hb dSq_takeAllOut_109 ?_
        refine pf_Sq_101 Sf w 0 rfl rfl rfl (Nat.le_of_ble_eq_true rfl) (ws' := [(sq, zO 4 [.ref g, .ref sr, .ref pl, .ref na, .ref ba, .int (nI kd), .int (mI (max w1 (popc (bagF Nb n (Od i) gone)))), .int (nI (f1 + (fillS Nb n (bagF Nb n (Od i) gone) gone n / 2))), .int (nI (c1 + (cellsF V (bagF Nb n (Od i) gone) n))), .int (nI m1), .int (nI kn)]), (g, zO 2 [.ref av, .ref an, .int (nI n), .int st]), (av, zI G 12 (fun j => nI (V j))), (an, zI G 12 (fun j => nI (Nb j))), (na, zI G 12 (fun j => nI (Od j))), (ba, zI G 12 (fun j => nI ((va_up F i (bagF Nb n (Od i) gone)) j)))]) rfl dSq_takeAllOut_110 (fun H locs w => ?_)
        refine lv_aload_n hx hb dSq_takeAllOut_113 rfl (lv_at hl 4 rfl) ?_
        refine lv_aload_n hx hb dSq_takeAllOut_114 rfl (lv_at hl 4 rfl) ?_
        refine gf_Sq_104 Sf w.1 0 rfl rfl dSq_takeAllOut_115 ?_
        refine lv_iload hx hb dSq_takeAllOut_118 (lv_at hl 0 rfl) ?_
        refine z_mmaxZ Sf mv_Sq_107 hl.1 ⟨Nat.le_of_ble_eq_true rfl, Nat.le_of_ble_eq_true rfl⟩ (Nat.le_of_ble_eq_true rfl) ⟨Nat.le_of_ble_eq_true rfl, Nat.le_of_ble_eq_true rfl⟩ dSq_takeAllOut_120 ?_
        rw [mxN (by omega) (by omega)]
        refine pf_Sq_104 Sf w 0 rfl rfl rfl (Nat.le_of_ble_eq_true rfl) (ws' := [(sq, zO 4 [.ref g, .ref sr, .ref pl, .ref na, .ref ba, .int (nI kd), .int (mI (max w1 (popc (bagF Nb n (Od i) gone)))), .int (nI (f1 + (fillS Nb n (bagF Nb n (Od i) gone) gone n / 2))), .int (nI (c1 + (cellsF V (bagF Nb n (Od i) gone) n))), .int (nI (max m1 (cellsF V (bagF Nb n (Od i) gone) n))), .int (nI kn)]), (g, zO 2 [.ref av, .ref an, .int (nI n), .int st]), (av, zI G 12 (fun j => nI (V j))), (an, zI G 12 (fun j => nI (Nb j))), (na, zI G 12 (fun j => nI (Od j))), (ba, zI G 12 (fun j => nI ((va_up F i (bagF Nb n (Od i) gone)) j)))]) rfl dSq_takeAllOut_123 (fun H locs w => ?_)
        refine lv_iload_n hx hb dSq_takeAllOut_126 rfl (lv_at hl 3 rfl) ?_
        refine lv_iconst (v := (nI 1)) hx hb dSq_takeAllOut_127 (by decide) ?_
        refine lv_aload_n hx hb dSq_takeAllOut_128 rfl (lv_at hl 4 rfl) ?_
        refine gf_Sq_15 Sf w.1 0 rfl rfl dSq_takeAllOut_129 ?_
        refine lv_iload_n hx hb dSq_takeAllOut_132 rfl (lv_at hl 2 rfl) ?_
        refine z_iald hx hb w.1 4 (k := i) rfl (by omega) (by omega) dSq_takeAllOut_133 ?_
        refine z_shl1 hx hb (by omega) dSq_takeAllOut_134 ?_
        refine z_orN hx hb dSq_takeAllOut_135 ?_
        refine lv_istore_n (lv' := [(1, .int (nI (gone ||| (2 ^ (Od i))))), (4, .int (nI (cellsF V (bagF Nb n (Od i) gone) n))), (3, .int (nI (bagF Nb n (Od i) gone))), (2, .int (nI i)), (0, .ref sq)]) hx hb dSq_takeAllOut_136 rfl hl (by decide) rfl (fun ls hl => ?_)
        refine z_iinc (d := 1) (lv' := [(2, .int (nI (i + 1))), (1, .int (nI (gone ||| (2 ^ (Od i))))), (4, .int (nI (cellsF V (bagF Nb n (Od i) gone) n))), (3, .int (nI (bagF Nb n (Od i) gone))), (0, .ref sq)]) hx hb dSq_takeAllOut_137 hl (k := 3) rfl (by decide) (by decide) rfl (fun ls hl => ?_)
        refine lv_goto (tgt := 24) hx hb dSq_takeAllOut_140 (by decide) ?_
        refine ih24 (gone ||| (2 ^ (Od i))) (i + 1) (max w1 (popc (bagF Nb n (Od i) gone))) (f1 + (fillS Nb n (bagF Nb n (Od i) gone) gone n / 2)) (c1 + (cellsF V (bagF Nb n (Od i) gone) n)) (max m1 (cellsF V (bagF Nb n (Od i) gone) n)) (va_up F i (bagF Nb n (Od i) gone)) ?_ ?_ ?_ ?_ ?_ ?_ ?_ ?_ ?_ ?_ _ _ w ls (lv_sub hl [0, 1, 4] rfl)
        · omega
        · rw [hgo]; rfl
        · rw [hw1, hgo]; rfl
        · omega
        · rw [hf1, hgo]; rfl
        · rw [hc1, hgo]; rfl
        · rw [hm1, hgo]; rfl
        · omega
        · rw [hF, hgo]; exact rowF_s _ (bgC Nb n Od) i
        · omega
  refine L24 ((n - 0) + 1) 0 0 0 0 0 0 Bg ?_ ?_ ?_ ?_ ?_ ?_ ?_ ?_ ?_ ?_ _ _ w ls (lv_sub hl [0, 1, 2] rfl)
  · omega
  · rfl
  · rfl
  · exact Nat.zero_le _
  · rfl
  · rfl
  · rfl
  · exact Nat.zero_le _
  · exact (rowF_0 _ _).symm
  · exact Nat.lt_succ_self _

def rm_Seq_refresh : Room := { frames := 4, cells := 0, slots := 0, locals := 128 }
set_option maxHeartbeats 4000000 in
set_option maxRecDepth 100000 in
theorem c_Seq_refresh (l : Launch) (G : zG) (sq sr pl na ba : Nat) (g av an : Nat) (n : Nat) (st : Int32) (kd wd fi ci mx kn : Nat) (V Nb Od Bg : Nat → Nat) (hn : n ≤ 12) (hN : ∀ i, Nb i < 4096) (hV : ∀ j, V j ≤ 4) (hkn : kn ≤ 1) (sz : Nat) : Met l ySq_refresh (.code ySq_refresh cSq_refresh 2 none :: zT) rm_Seq_refresh (zPw G [.ref sq] [(sq, zO 4 [.ref g, .ref sr, .ref pl, .ref na, .ref ba, .int (nI kd), .int (mI wd), .int (nI fi), .int (nI ci), .int (nI mx), .int (nI kn)]), (g, zO 2 [.ref av, .ref an, .int (nI n), .int st]), (av, zI G 12 (fun j => nI (V j))), (an, zI G 12 (fun j => nI (Nb j))), (na, zI G 12 (fun j => nI (Od j))), (ba, zI G 12 (fun j => nI (Bg j)))] sz) (zQ (S := Unit) G (fun u => none) (fun u => [(sq, zO 4 [.ref g, .ref sr, .ref pl, .ref na, .ref ba, .int (nI ((srZ Nb V n kn (kd, wd, fi, ci, mx, Od, Bg)).1)), .int (mI ((srZ Nb V n kn (kd, wd, fi, ci, mx, Od, Bg)).2.1)), .int (nI ((srZ Nb V n kn (kd, wd, fi, ci, mx, Od, Bg)).2.2.1)), .int (nI ((srZ Nb V n kn (kd, wd, fi, ci, mx, Od, Bg)).2.2.2.1)), .int (nI ((srZ Nb V n kn (kd, wd, fi, ci, mx, Od, Bg)).2.2.2.2.1)), .int (nI 1)]), (g, zO 2 [.ref av, .ref an, .int (nI n), .int st]), (av, zI G 12 (fun j => nI (V j))), (an, zI G 12 (fun j => nI (Nb j))), (na, zI G 12 (fun j => nI (((srZ Nb V n kn (kd, wd, fi, ci, mx, Od, Bg)).2.2.2.2.2.1) j))), (ba, zI G 12 (fun j => nI (((srZ Nb V n kn (kd, wd, fi, ci, mx, Od, Bg)).2.2.2.2.2.2) j)))]) (va_A [(sq, zO 4 [.ref g, .ref sr, .ref pl, .ref na, .ref ba, .int (nI kd), .int (mI wd), .int (nI fi), .int (nI ci), .int (nI mx), .int (nI kn)]), (g, zO 2 [.ref av, .ref an, .int (nI n), .int st]), (av, zI G 12 (fun j => nI (V j))), (an, zI G 12 (fun j => nI (Nb j))), (na, zI G 12 (fun j => nI (Od j))), (ba, zI G 12 (fun j => nI (Bg j)))] sz) (fun u => True)) 0 0 (va_A [(sq, zO 4 [.ref g, .ref sr, .ref pl, .ref na, .ref ba, .int (nI kd), .int (mI wd), .int (nI fi), .int (nI ci), .int (nI mx), .int (nI kn)]), (g, zO 2 [.ref av, .ref an, .int (nI n), .int st]), (av, zI G 12 (fun j => nI (V j))), (an, zI G 12 (fun j => nI (Nb j))), (na, zI G 12 (fun j => nI (Od j))), (ba, zI G 12 (fun j => nI (Bg j)))] sz) := by
  refine z_metWv (by decide) (Nat.le_of_ble_eq_true rfl) (fun p e s m args below meth c ls A Q Sf hnm w hl hret => ?_)
  obtain ⟨H, hH⟩ : ∃ H, H = s.heap := ⟨_, rfl⟩
  obtain ⟨locs, hlo⟩ : ∃ L : List Loc, L = [] := ⟨_, rfl⟩
  rw [← hH, ← hlo] at w
  rw [← hH, ← hlo]
  clear hH hlo
  have Sf : CallFix p m c cSq_refresh 2 s args zT RSq := Sf
  have hx := Sf.1
  have hb := Sf.2.1
  have hown := Sf.2.2.2.1
  have hts := Sf.2.2.2.2
  have hl : lv_has ls 2 [(0, .ref sq)] := hl
  refine lv_aload_n hx hb dSq_refresh_0 rfl (lv_at hl 0 rfl) ?_
  refine gf_Sq_50 Sf w.1 0 rfl rfl dSq_refresh_1 ?_
  refine z_ifeqN (tgt := 8) hx hb (by omega) dSq_refresh_4 (by decide) (fun c4 => ?_) (fun c4 => ?_)
  · skip
    refine lv_aload_n hx hb dSq_refresh_8 rfl (lv_at hl 0 rfl) ?_
    refine lv_iconst (v := (nI 0)) hx hb dSq_refresh_9 (by decide) ?_
    refine pf_Sq_57 Sf w 0 rfl rfl rfl (Nat.le_of_ble_eq_true rfl) (ws' := [(sq, zO 4 [.ref g, .ref sr, .ref pl, .ref na, .ref ba, .int (nI 0), .int (mI wd), .int (nI fi), .int (nI ci), .int (nI mx), .int (nI kn)]), (g, zO 2 [.ref av, .ref an, .int (nI n), .int st]), (av, zI G 12 (fun j => nI (V j))), (an, zI G 12 (fun j => nI (Nb j))), (na, zI G 12 (fun j => nI (Od j))), (ba, zI G 12 (fun j => nI (Bg j)))]) rfl dSq_refresh_10 (fun H locs w => ?_)
    refine lv_iconst (v := (nI 0)) hx hb dSq_refresh_13 (by decide) ?_
    refine lv_istore_n (lv' := [(1, .int (nI 0)), (0, .ref sq)]) hx hb dSq_refresh_14 rfl hl (by decide) rfl (fun ls hl => ?_)
    have L15 : ∀ (fu15 : Nat) (i : Nat) (F : Nat → Nat), (i ≤ n) → (F = rowF Od (fun j => j) i) → (n - i) < fu15 → ∀ (H : Heap) (locs : List Loc), zw G A s [(sq, zO 4 [.ref g, .ref sr, .ref pl, .ref na, .ref ba, .int (nI 0), .int (mI wd), .int (nI fi), .int (nI ci), .int (nI mx), .int (nI kn)]), (g, zO 2 [.ref av, .ref an, .int (nI n), .int st]), (av, zI G 12 (fun j => nI (V j))), (an, zI G 12 (fun j => nI (Nb j))), (na, zI G 12 (fun j => nI (F j))), (ba, zI G 12 (fun j => nI (Bg j)))] H locs → ∀ (ls : Array Slot), lv_has ls 2 [(1, .int (nI i)), (0, .ref sq)] → W p l e rm_Seq_refresh s m args below meth c H locs 0 0 Q (F0 m 15 ls []) := by
      intro fu15
      induction fu15 with
      | zero =>
        intro i F hi hF hm15
        exact absurd hm15 (Nat.not_lt_zero _)
      | succ fu15 ih15 =>
        intro i F hi hF hm15 H locs w ls hl
        refine lv_iload_n hx hb dSq_refresh_15 rfl (lv_at hl 0 rfl) ?_
        refine lv_aload_n hx hb dSq_refresh_16 rfl (lv_at hl 1 rfl) ?_
        refine gf_Sq_21 Sf w.1 0 rfl rfl dSq_refresh_17 ?_
        refine gf_Sq_40 Sf w.1 1 rfl rfl dSq_refresh_20 ?_
        refine z_icmpge (tgt := 39) hx hb (by omega) (by omega) dSq_refresh_23 (by decide) (fun c23 => ?_) (fun c23 => ?_)
        · skip
          refine lv_aload_n hx hb dSq_refresh_39 rfl (lv_at hl 1 rfl) ?_
          refine z_wV (wr := []) (As := []) (rest := []) Sf (c_Seq_takeAllOut l G sq sr pl na ba g av an n st 0 wd fi ci mx kn V Nb F Bg (by first | assumption | omega) (by first | assumption | omega) (by first | assumption | omega) (fun j hj => by rw [hF, rowF_lt (show j < i by omega)]; exact hj) H.size) mv_Sq_60 ⟨rfl, rfl⟩ ⟨Nat.le_of_ble_eq_true rfl, Nat.le_of_ble_eq_true rfl⟩ w [0, 1, 2, 3, 4, 5] [] rfl rfl (by decide) (by decide) (by decide) 0 rfl rfl rfl rfl hl.1 rfl (Nat.le_of_ble_eq_true rfl) dSq_refresh_40 ⟨Nat.le_of_ble_eq_true rfl, Nat.le_of_ble_eq_true rfl⟩ (fun u1 H locs hu1 w => ?_)
          have w := w.eq (ws' := [(sq, zO 4 [.ref g, .ref sr, .ref pl, .ref na, .ref ba, .int (nI 0), .int (mI (wdF (bgC Nb n F) n)), .int (nI (flC Nb n F n)), .int (nI (sumF (fun i => cellsF V (bgC Nb n F i) n) n)), .int (nI (mcF V (bgC Nb n F) n n)), .int (nI 1)]), (g, zO 2 [.ref av, .ref an, .int (nI n), .int st]), (av, zI G 12 (fun j => nI (V j))), (an, zI G 12 (fun j => nI (Nb j))), (na, zI G 12 (fun j => nI (F j))), (ba, zI G 12 (fun j => nI ((rowF Bg (bgC Nb n F) n) j)))]) rfl
          refine W.eq (g2 := F0 m 43 ls []) rfl ?_
          exact hret _ _ _ _ () _ w (by rw [hF, show i = n by omega, c4]; rfl) (trivial) dSq_refresh_43 rfl
        · skip
          refine lv_aload_n hx hb dSq_refresh_26 rfl (lv_at hl 1 rfl) ?_
          refine gf_Sq_15 Sf w.1 0 rfl rfl dSq_refresh_27 ?_
          refine lv_iload_n hx hb dSq_refresh_30 rfl (lv_at hl 0 rfl) ?_
          refine lv_iload_n hx hb dSq_refresh_31 rfl (lv_at hl 0 rfl) ?_
          refine z_iastN hx hb w 4 (k := i) rfl (by omega) (by omega) (ws' := [(sq, zO 4 [.ref g, .ref sr, .ref pl, .ref na, .ref ba, .int (nI 0), .int (mI wd), .int (nI fi), .int (nI ci), .int (nI mx), .int (nI kn)]), (g, zO 2 [.ref av, .ref an, .int (nI n), .int st]), (av, zI G 12 (fun j => nI (V j))), (an, zI G 12 (fun j => nI (Nb j))), (na, zI G 12 (fun j => nI ((va_up F i i) j))), (ba, zI G 12 (fun j => nI (Bg j)))]) rfl dSq_refresh_32 (fun H locs w => ?_)
          refine z_iinc (d := 1) (lv' := [(1, .int (nI (i + 1))), (0, .ref sq)]) hx hb dSq_refresh_33 hl (k := 0) rfl (by decide) (by decide) rfl (fun ls hl => ?_)
          refine lv_goto (tgt := 15) hx hb dSq_refresh_36 (by decide) ?_
          refine ih15 (i + 1) (va_up F i i) ?_ ?_ ?_ _ _ w ls (lv_sub hl [0, 1] rfl)
          · omega
          · rw [hF]; exact rowF_s _ (fun j => j) i
          · omega
    refine L15 ((n - 0) + 1) 0 Od ?_ ?_ ?_ _ _ w ls (lv_sub hl [0, 1] rfl)
    · omega
    · exact (rowF_0 _ _).symm
    · exact Nat.lt_succ_self _
  · skip
    exact hret _ _ _ _ () _ w (by rw [show kn = 1 by omega]; rfl) (trivial) dSq_refresh_7 rfl

def rm_Seq_costOf : Room := { frames := 3, cells := 0, slots := 0, locals := 104 }
set_option maxHeartbeats 4000000 in
set_option maxRecDepth 100000 in
theorem c_Seq_costOf (l : Launch) (G : zG) (sq sr pl na ba : Nat) (g av an : Nat) (n : Nat) (st : Int32) (kd wd fi ci mx kn : Nat) (V Nb : Nat → Nat) (a gone : Nat) (hn : n ≤ 12) (hN : ∀ i, Nb i < 4096) (hV : ∀ j, V j ≤ 4) (hkd : 2 ≤ kd ∧ kd ≤ 4) (ha : a < n) : Met l ySq_costOf (.code ySq_costOf cSq_costOf 4 (some .int) :: zT) rm_Seq_costOf (zPr G [.ref sq, .int (nI a), .int (nI gone)] [(sq, zO 4 [.ref g, .ref sr, .ref pl, .ref na, .ref ba, .int (nI kd), .int (mI wd), .int (nI fi), .int (nI ci), .int (nI mx), .int (nI kn)]), (g, zO 2 [.ref av, .ref an, .int (nI n), .int st]), (av, zI G 12 (fun j => nI (V j))), (an, zI G 12 (fun j => nI (Nb j)))]) (k2_QcV (.int (nI (coC Nb V n kd gone a)))) 0 0 (fun _ => False) := by
  refine z_metRi (by decide) (Nat.le_of_ble_eq_true rfl) (fun p e s m args below meth c ls Q Sf r hl hret => ?_)
  have Sf : CallFix p m c cSq_costOf 4 s args zT RSq := Sf
  have hx := Sf.1
  have hb := Sf.2.1
  have hown := Sf.2.2.2.1
  have hts := Sf.2.2.2.2
  have hl : lv_has ls 4 [(0, .ref sq), (1, .int (nI a)), (2, .int (nI gone))] := hl
  have hbg : bagF Nb n a gone < 4096 := bagF_lt hN (by omega)
  refine lv_aload_n hx hb dSq_costOf_0 rfl (lv_at hl 0 rfl) ?_
  refine gf_Sq_21 Sf r 0 rfl rfl dSq_costOf_1 ?_
  refine lv_iload_n hx hb dSq_costOf_4 rfl (lv_at hl 1 rfl) ?_
  refine lv_iload_n hx hb dSq_costOf_5 rfl (lv_at hl 2 rfl) ?_
  refine z_rV (As := [.int (nI a), .int (nI gone)]) (rest := []) Sf (c_Graph_bagOf l G g av an n st Nb a gone (by first | assumption | omega) (by first | assumption | omega) (by first | assumption | omega)) mv_Sq_83 ⟨rfl, rfl⟩ ⟨Nat.le_of_ble_eq_true rfl, Nat.le_of_ble_eq_true rfl⟩ r [1, 3] rfl 1 rfl rfl rfl rfl hl.1 rfl (Nat.le_of_ble_eq_true rfl) dSq_costOf_6 ⟨Nat.le_of_ble_eq_true rfl, Nat.le_of_ble_eq_true rfl⟩ ?_
  refine lv_istore_n (lv' := [(3, .int (nI (bagF Nb n a gone))), (0, .ref sq), (1, .int (nI a)), (2, .int (nI gone))]) hx hb dSq_costOf_9 rfl hl (by decide) rfl (fun ls hl => ?_)
  refine lv_aload_n hx hb dSq_costOf_10 rfl (lv_at hl 1 rfl) ?_
  refine gf_Sq_57 Sf r 0 rfl rfl dSq_costOf_11 ?_
  rcases (show kd = 2 ∨ kd = 3 ∨ kd = 4 by omega) with rfl | rfl | rfl
  · skip
    refine lv_tableIn (off := 26) (tgt := 40) hx hb dSq_costOf_14 (by decide) (by decide) (by decide) (by decide) ?_
    refine lv_iload_n hx hb dSq_costOf_40 rfl (lv_at hl 0 rfl) ?_
    refine z_rS (As := [.int (nI (bagF Nb n a gone))]) (rest := []) Sf (c_bitCount l G (bagF Nb n a gone) hbg) mv_Sq_86 ⟨rfl, rfl⟩ ⟨Nat.le_of_ble_eq_true rfl, Nat.le_of_ble_eq_true rfl⟩ r [] rfl rfl hl.1 rfl (Nat.le_of_ble_eq_true rfl) dSq_costOf_41 ⟨Nat.le_of_ble_eq_true rfl, Nat.le_of_ble_eq_true rfl⟩ ?_
    exact hret _ _ _ dSq_costOf_44 (rfl)
  · skip
    refine lv_tableIn (off := 31) (tgt := 45) hx hb dSq_costOf_14 (by decide) (by decide) (by decide) (by decide) ?_
    refine lv_aload_n hx hb dSq_costOf_45 rfl (lv_at hl 1 rfl) ?_
    refine gf_Sq_21 Sf r 0 rfl rfl dSq_costOf_46 ?_
    refine lv_iload_n hx hb dSq_costOf_49 rfl (lv_at hl 0 rfl) ?_
    refine lv_iload_n hx hb dSq_costOf_50 rfl (lv_at hl 3 rfl) ?_
    refine z_rV (As := [.int (nI (bagF Nb n a gone)), .int (nI gone)]) (rest := []) Sf (c_Graph_fillOf l G g av an n st Nb (bagF Nb n a gone) gone (by first | assumption | omega) hbg (by first | assumption | omega)) mv_Sq_89 ⟨rfl, rfl⟩ ⟨Nat.le_of_ble_eq_true rfl, Nat.le_of_ble_eq_true rfl⟩ r [1, 3] rfl 1 rfl rfl rfl rfl hl.1 rfl (Nat.le_of_ble_eq_true rfl) dSq_costOf_51 ⟨Nat.le_of_ble_eq_true rfl, Nat.le_of_ble_eq_true rfl⟩ ?_
    exact hret _ _ _ dSq_costOf_54 (rfl)
  · skip
    refine lv_tableIn (off := 41) (tgt := 55) hx hb dSq_costOf_14 (by decide) (by decide) (by decide) (by decide) ?_
    refine lv_aload_n hx hb dSq_costOf_55 rfl (lv_at hl 1 rfl) ?_
    refine gf_Sq_21 Sf r 0 rfl rfl dSq_costOf_56 ?_
    refine lv_iload_n hx hb dSq_costOf_59 rfl (lv_at hl 0 rfl) ?_
    refine z_rV (As := [.int (nI (bagF Nb n a gone))]) (rest := []) Sf (c_Graph_cellsOf l G g av an n st V (bagF Nb n a gone) (by first | assumption | omega) (by first | assumption | omega)) mv_Sq_92 ⟨rfl, rfl⟩ ⟨Nat.le_of_ble_eq_true rfl, Nat.le_of_ble_eq_true rfl⟩ r [1, 2] rfl 1 rfl rfl rfl rfl hl.1 rfl (Nat.le_of_ble_eq_true rfl) dSq_costOf_60 ⟨Nat.le_of_ble_eq_true rfl, Nat.le_of_ble_eq_true rfl⟩ ?_
    exact hret _ _ _ dSq_costOf_63 (rfl)

def rm_Seq_cheapest : Room := { frames := 4, cells := 0, slots := 0, locals := 127 }
set_option maxHeartbeats 4000000 in
set_option maxRecDepth 100000 in
theorem c_Seq_cheapest (l : Launch) (G : zG) (sq sr pl na ba : Nat) (g av an : Nat) (n : Nat) (st : Int32) (kd wd fi ci mx kn : Nat) (V Nb : Nat → Nat) (gone : Nat) (hn : n ≤ 12) (hN : ∀ i, Nb i < 4096) (hV : ∀ j, V j ≤ 4) (hkd : 2 ≤ kd ∧ kd ≤ 4) (hg0 : gone < 4096) : Met l ySq_cheapest (.code ySq_cheapest cSq_cheapest 6 (some .int) :: zT) rm_Seq_cheapest (zPr G [.ref sq, .int (nI gone)] [(sq, zO 4 [.ref g, .ref sr, .ref pl, .ref na, .ref ba, .int (nI kd), .int (mI wd), .int (nI fi), .int (nI ci), .int (nI mx), .int (nI kn)]), (g, zO 2 [.ref av, .ref an, .int (nI n), .int st]), (av, zI G 12 (fun j => nI (V j))), (an, zI G 12 (fun j => nI (Nb j)))]) (k2_QcV (.int (nI ((chC (coC Nb V n kd gone) gone n).1)))) 0 0 (fun _ => False) := by
  refine z_metRi (by decide) (Nat.le_of_ble_eq_true rfl) (fun p e s m args below meth c ls Q Sf r hl hret => ?_)
  have Sf : CallFix p m c cSq_cheapest 6 s args zT RSq := Sf
  have hx := Sf.1
  have hb := Sf.2.1
  have hown := Sf.2.2.2.1
  have hts := Sf.2.2.2.2
  have hl : lv_has ls 6 [(0, .ref sq), (1, .int (nI gone))] := hl
  refine lv_iconst (v := (nI 0)) hx hb dSq_cheapest_0 (by decide) ?_
  refine lv_istore_n (lv' := [(2, .int (nI 0)), (0, .ref sq), (1, .int (nI gone))]) hx hb dSq_cheapest_1 rfl hl (by decide) rfl (fun ls hl => ?_)
  refine lv_ldc (v := nI 2147483647) hx hb hown (hts _ kc_Sq_79) dSq_cheapest_2 ?_
  refine lv_istore_n (lv' := [(3, .int (nI 2147483647)), (2, .int (nI 0)), (0, .ref sq), (1, .int (nI gone))]) hx hb dSq_cheapest_4 rfl hl (by decide) rfl (fun ls hl => ?_)
  refine lv_iconst (v := (nI 0)) hx hb dSq_cheapest_5 (by decide) ?_
  refine lv_istore (lv' := [(4, .int (nI 0)), (3, .int (nI 2147483647)), (2, .int (nI 0)), (0, .ref sq), (1, .int (nI gone))]) hx hb dSq_cheapest_6 hl (by decide) rfl (fun ls hl => ?_)
  have L8 : ∀ (fu8 : Nat) (i x y : Nat), (i ≤ n) → (chC (coC Nb V n kd gone) gone i = (x, y)) → (y ≤ 2147483647) → (n - i) < fu8 → ∀ (ls : Array Slot), lv_has ls 6 [(4, .int (nI i)), (3, .int (nI y)), (2, .int (nI x)), (0, .ref sq), (1, .int (nI gone))] → W p l e rm_Seq_cheapest s m args below meth c s.heap [] 0 0 Q (F0 m 8 ls []) := by
    intro fu8
    induction fu8 with
    | zero =>
      intro i x y hi hx0 hy hm8
      exact absurd hm8 (Nat.not_lt_zero _)
    | succ fu8 ih8 =>
      intro i x y hi hx0 hy hm8 ls hl
      refine lv_iload hx hb dSq_cheapest_8 (lv_at hl 0 rfl) ?_
      refine lv_aload_n hx hb dSq_cheapest_10 rfl (lv_at hl 3 rfl) ?_
      refine gf_Sq_21 Sf r 0 rfl rfl dSq_cheapest_11 ?_
      refine gf_Sq_40 Sf r 1 rfl rfl dSq_cheapest_14 ?_
      refine z_icmpge (tgt := 60) hx hb (by omega) (by omega) dSq_cheapest_17 (by decide) (fun c17 => ?_) (fun c17 => ?_)
      · skip
        refine lv_iload_n hx hb dSq_cheapest_60 rfl (lv_at hl 2 rfl) ?_
        exact hret _ _ _ dSq_cheapest_61 (by rw [show i = n by omega] at hx0; rw [hx0])
      · skip
        refine lv_iload_n hx hb dSq_cheapest_20 rfl (lv_at hl 4 rfl) ?_
        refine lv_iconst (v := (nI 1)) hx hb dSq_cheapest_21 (by decide) ?_
        refine lv_iload hx hb dSq_cheapest_22 (lv_at hl 0 rfl) ?_
        refine z_shl1 hx hb (by omega) dSq_cheapest_24 ?_
        refine z_andN hx hb dSq_cheapest_25 ?_
        refine z_ifeqbit (tgt := 33) hx hb (by omega) dSq_cheapest_26 (by decide) (fun c26 => ?_) (fun c26 => ?_)
        · skip
          have hcc := coC_le (kd := kd) (gone := gone) hn hN hV (show i < n by omega)
          refine lv_aload_n hx hb dSq_cheapest_33 rfl (lv_at hl 3 rfl) ?_
          refine lv_iload hx hb dSq_cheapest_34 (lv_at hl 0 rfl) ?_
          refine lv_iload_n hx hb dSq_cheapest_36 rfl (lv_at hl 4 rfl) ?_
          refine z_rV (As := [.int (nI i), .int (nI gone)]) (rest := []) Sf (c_Seq_costOf l G sq sr pl na ba g av an n st kd wd fi ci mx kn V Nb i gone (by first | assumption | omega) (by first | assumption | omega) (by first | assumption | omega) (by first | assumption | omega) (by first | assumption | omega)) mv_Sq_80 ⟨rfl, rfl⟩ ⟨Nat.le_of_ble_eq_true rfl, Nat.le_of_ble_eq_true rfl⟩ r [0, 1, 2, 3] rfl 0 rfl rfl rfl rfl hl.1 rfl (Nat.le_of_ble_eq_true rfl) dSq_cheapest_37 ⟨Nat.le_of_ble_eq_true rfl, Nat.le_of_ble_eq_true rfl⟩ ?_
          refine lv_istore (lv' := [(5, .int (nI (coC Nb V n kd gone i))), (4, .int (nI i)), (3, .int (nI y)), (2, .int (nI x)), (0, .ref sq), (1, .int (nI gone))]) hx hb dSq_cheapest_40 hl (by decide) rfl (fun ls hl => ?_)
          refine lv_iload hx hb dSq_cheapest_42 (lv_at hl 0 rfl) ?_
          refine lv_iload_n hx hb dSq_cheapest_44 rfl (lv_at hl 2 rfl) ?_
          refine z_icmpge (tgt := 54) hx hb (by omega) (by omega) dSq_cheapest_45 (by decide) (fun c45 => ?_) (fun c45 => ?_)
          · skip
            refine z_iinc (d := 1) (lv' := [(4, .int (nI (i + 1))), (5, .int (nI (coC Nb V n kd gone i))), (3, .int (nI y)), (2, .int (nI x)), (0, .ref sq), (1, .int (nI gone))]) hx hb dSq_cheapest_54 hl (k := 1) rfl (by decide) (by decide) rfl (fun ls hl => ?_)
            refine lv_goto (tgt := 8) hx hb dSq_cheapest_57 (by decide) ?_
            refine ih8 (i + 1) _ _ ?_ ?_ ?_ ?_ ls (lv_sub hl [0, 2, 3, 4, 5] rfl)
            · omega
            · first | (rw [chC_o c26, hx0]; done) | (rw [chC_t c26 (by rw [hx0]; exact c45)]; done) | (rw [chC_f c26 (by rw [hx0]; exact Nat.not_lt.mpr c45), hx0])
            · omega
            · omega
          · skip
            refine lv_iload hx hb dSq_cheapest_48 (lv_at hl 0 rfl) ?_
            refine lv_istore_n (lv' := [(3, .int (nI (coC Nb V n kd gone i))), (5, .int (nI (coC Nb V n kd gone i))), (4, .int (nI i)), (2, .int (nI x)), (0, .ref sq), (1, .int (nI gone))]) hx hb dSq_cheapest_50 rfl hl (by decide) rfl (fun ls hl => ?_)
            refine lv_iload hx hb dSq_cheapest_51 (lv_at hl 2 rfl) ?_
            refine lv_istore_n (lv' := [(2, .int (nI i)), (3, .int (nI (coC Nb V n kd gone i))), (5, .int (nI (coC Nb V n kd gone i))), (4, .int (nI i)), (0, .ref sq), (1, .int (nI gone))]) hx hb dSq_cheapest_53 rfl hl (by decide) rfl (fun ls hl => ?_)
            refine z_iinc (d := 1) (lv' := [(4, .int (nI (i + 1))), (2, .int (nI i)), (3, .int (nI (coC Nb V n kd gone i))), (5, .int (nI (coC Nb V n kd gone i))), (0, .ref sq), (1, .int (nI gone))]) hx hb dSq_cheapest_54 hl (k := 3) rfl (by decide) (by decide) rfl (fun ls hl => ?_)
            refine lv_goto (tgt := 8) hx hb dSq_cheapest_57 (by decide) ?_
            refine ih8 (i + 1) i (coC Nb V n kd gone i) ?_ ?_ ?_ ?_ ls (lv_sub hl [0, 2, 1, 4, 5] rfl)
            · omega
            · first | (rw [chC_o c26, hx0]; done) | (rw [chC_t c26 (by rw [hx0]; exact c45)]; done) | (rw [chC_f c26 (by rw [hx0]; exact Nat.not_lt.mpr c45), hx0])
            · omega
            · omega
        · skip
          refine lv_iload_n hx hb dSq_cheapest_29 rfl (lv_at hl 1 rfl) ?_
          refine lv_goto (tgt := 40) hx hb dSq_cheapest_30 (by decide) ?_
          refine lv_istore (lv' := [(5, .int (nI y)), (4, .int (nI i)), (3, .int (nI y)), (2, .int (nI x)), (0, .ref sq), (1, .int (nI gone))]) hx hb dSq_cheapest_40 hl (by decide) rfl (fun ls hl => ?_)
          refine lv_iload hx hb dSq_cheapest_42 (lv_at hl 0 rfl) ?_
          refine lv_iload_n hx hb dSq_cheapest_44 rfl (lv_at hl 2 rfl) ?_
          refine z_icmpge (tgt := 54) hx hb (by omega) (by omega) dSq_cheapest_45 (by decide) (fun c45 => ?_) (fun c45 => ?_)
          · skip
            refine z_iinc (d := 1) (lv' := [(4, .int (nI (i + 1))), (5, .int (nI y)), (3, .int (nI y)), (2, .int (nI x)), (0, .ref sq), (1, .int (nI gone))]) hx hb dSq_cheapest_54 hl (k := 1) rfl (by decide) (by decide) rfl (fun ls hl => ?_)
            refine lv_goto (tgt := 8) hx hb dSq_cheapest_57 (by decide) ?_
            refine ih8 (i + 1) _ _ ?_ ?_ ?_ ?_ ls (lv_sub hl [0, 2, 3, 4, 5] rfl)
            · omega
            · first | (rw [chC_o c26, hx0]; done) | (rw [chC_t c26 (by rw [hx0]; exact c45)]; done) | (rw [chC_f c26 (by rw [hx0]; exact Nat.not_lt.mpr c45), hx0])
            · omega
            · omega
          · skip
            exact absurd c45 (Nat.lt_irrefl _)
  refine L8 ((n - 0) + 1) 0 0 2147483647 ?_ ?_ ?_ ?_ ls (lv_sub hl [0, 1, 2, 3, 4] rfl)
  · omega
  · rfl
  · omega
  · exact Nat.lt_succ_self _

def rm_Seq_chosenAt : Room := { frames := 5, cells := 0, slots := 0, locals := 152 }
set_option maxHeartbeats 4000000 in
set_option maxRecDepth 100000 in
theorem c_Seq_chosenAt (l : Launch) (G : zG) (sq sr pl na ba : Nat) (g av an : Nat) (n : Nat) (st : Int32) (kd wd fi ci mx kn : Nat) (fo ce le kn2 cn : Nat) (V Nb Pl Fo : Nat → Nat) (i gone : Nat) (hn : n ≤ 12) (hN : ∀ i, Nb i < 4096) (hV : ∀ j, V j ≤ 4) (hkd : kd ≤ 5) (hg0 : gone < 4096) (hi : i < n) (h1 : kd = 1 → ∀ i, i < n → 0 < Pl i ∧ Pl i ≤ n) : Met l ySq_chosenAt (.code ySq_chosenAt cSq_chosenAt 3 (some .int) :: zT) rm_Seq_chosenAt (zPr G [.ref sq, .int (nI i), .int (nI gone)] [(sq, zO 4 [.ref g, .ref sr, .ref pl, .ref na, .ref ba, .int (nI kd), .int (mI wd), .int (nI fi), .int (nI ci), .int (nI mx), .int (nI kn)]), (g, zO 2 [.ref av, .ref an, .int (nI n), .int st]), (av, zI G 12 (fun j => nI (V j))), (an, zI G 12 (fun j => nI (Nb j))), (pl, zI G 12 (fun j => mI (Pl j))), (sr, zO 3 [.ref g, .ref fo, .ref ce, .ref le, .int (nI cn), .int (nI kn2)]), (fo, zI G 12 (fun j => nI (Fo j)))]) (k2_QcV (.int (nI (ctC Nb V Pl Fo n kd i gone)))) 0 0 (fun _ => False) := by
  refine z_metRi (by decide) (Nat.le_of_ble_eq_true rfl) (fun p e s m args below meth c ls Q Sf r hl hret => ?_)
  have Sf : CallFix p m c cSq_chosenAt 3 s args zT RSq := Sf
  have hx := Sf.1
  have hb := Sf.2.1
  have hown := Sf.2.2.2.1
  have hts := Sf.2.2.2.2
  have hl : lv_has ls 3 [(0, .ref sq), (1, .int (nI i)), (2, .int (nI gone))] := hl
  refine lv_aload_n hx hb dSq_chosenAt_0 rfl (lv_at hl 0 rfl) ?_
  refine gf_Sq_57 Sf r 0 rfl rfl dSq_chosenAt_1 ?_
  rcases (show kd = 0 ∨ kd = 1 ∨ kd = 2 ∨ kd = 3 ∨ kd = 4 ∨ kd = 5 by omega) with rfl | rfl | rfl | rfl | rfl | rfl
  · skip
    refine lv_lookup (off := 36) (tgt := 40) hx hb dSq_chosenAt_4 (by decide) (by decide) (by decide) ?_
    refine lv_iload_n hx hb dSq_chosenAt_40 rfl (lv_at hl 1 rfl) ?_
    exact hret _ _ _ dSq_chosenAt_41 (rfl)
  · skip
    refine lv_lookup (off := 38) (tgt := 42) hx hb dSq_chosenAt_4 (by decide) (by decide) (by decide) ?_
    refine lv_aload_n hx hb dSq_chosenAt_42 rfl (lv_at hl 0 rfl) ?_
    refine gf_Sq_9 Sf r 0 rfl rfl dSq_chosenAt_43 ?_
    refine lv_iload_n hx hb dSq_chosenAt_46 rfl (lv_at hl 1 rfl) ?_
    refine z_iald hx hb r 4 (k := i) rfl (by omega) (by omega) dSq_chosenAt_47 ?_
    have hp := h1 rfl i hi
    rw [mI_p (show Pl i ≠ 0 by omega)]
    exact hret _ _ _ dSq_chosenAt_48 (rfl)
  · skip
    refine lv_lookup (off := 55) (tgt := 59) hx hb dSq_chosenAt_4 (by decide) (by decide) (by decide) ?_
    refine lv_aload_n hx hb dSq_chosenAt_59 rfl (lv_at hl 0 rfl) ?_
    refine lv_iload_n hx hb dSq_chosenAt_60 rfl (lv_at hl 2 rfl) ?_
    refine z_rV (As := [.int (nI gone)]) (rest := []) Sf (c_Seq_cheapest l G sq sr pl na ba g av an n st 2 wd fi ci mx kn V Nb gone (by first | assumption | omega) (by first | assumption | omega) (by first | assumption | omega) (by first | assumption | omega) (by first | assumption | omega)) mv_Sq_73 ⟨rfl, rfl⟩ ⟨Nat.le_of_ble_eq_true rfl, Nat.le_of_ble_eq_true rfl⟩ r [0, 1, 2, 3] rfl 0 rfl rfl rfl rfl hl.1 rfl (Nat.le_of_ble_eq_true rfl) dSq_chosenAt_61 ⟨Nat.le_of_ble_eq_true rfl, Nat.le_of_ble_eq_true rfl⟩ ?_
    exact hret _ _ _ dSq_chosenAt_64 (rfl)
  · skip
    refine lv_lookup (off := 55) (tgt := 59) hx hb dSq_chosenAt_4 (by decide) (by decide) (by decide) ?_
    refine lv_aload_n hx hb dSq_chosenAt_59 rfl (lv_at hl 0 rfl) ?_
    refine lv_iload_n hx hb dSq_chosenAt_60 rfl (lv_at hl 2 rfl) ?_
    refine z_rV (As := [.int (nI gone)]) (rest := []) Sf (c_Seq_cheapest l G sq sr pl na ba g av an n st 3 wd fi ci mx kn V Nb gone (by first | assumption | omega) (by first | assumption | omega) (by first | assumption | omega) (by first | assumption | omega) (by first | assumption | omega)) mv_Sq_73 ⟨rfl, rfl⟩ ⟨Nat.le_of_ble_eq_true rfl, Nat.le_of_ble_eq_true rfl⟩ r [0, 1, 2, 3] rfl 0 rfl rfl rfl rfl hl.1 rfl (Nat.le_of_ble_eq_true rfl) dSq_chosenAt_61 ⟨Nat.le_of_ble_eq_true rfl, Nat.le_of_ble_eq_true rfl⟩ ?_
    exact hret _ _ _ dSq_chosenAt_64 (rfl)
  · skip
    refine lv_lookup (off := 55) (tgt := 59) hx hb dSq_chosenAt_4 (by decide) (by decide) (by decide) ?_
    refine lv_aload_n hx hb dSq_chosenAt_59 rfl (lv_at hl 0 rfl) ?_
    refine lv_iload_n hx hb dSq_chosenAt_60 rfl (lv_at hl 2 rfl) ?_
    refine z_rV (As := [.int (nI gone)]) (rest := []) Sf (c_Seq_cheapest l G sq sr pl na ba g av an n st 4 wd fi ci mx kn V Nb gone (by first | assumption | omega) (by first | assumption | omega) (by first | assumption | omega) (by first | assumption | omega) (by first | assumption | omega)) mv_Sq_73 ⟨rfl, rfl⟩ ⟨Nat.le_of_ble_eq_true rfl, Nat.le_of_ble_eq_true rfl⟩ r [0, 1, 2, 3] rfl 0 rfl rfl rfl rfl hl.1 rfl (Nat.le_of_ble_eq_true rfl) dSq_chosenAt_61 ⟨Nat.le_of_ble_eq_true rfl, Nat.le_of_ble_eq_true rfl⟩ ?_
    exact hret _ _ _ dSq_chosenAt_64 (rfl)
  · skip
    refine lv_lookup (off := 45) (tgt := 49) hx hb dSq_chosenAt_4 (by decide) (by decide) (by decide) ?_
    refine lv_aload_n hx hb dSq_chosenAt_49 rfl (lv_at hl 0 rfl) ?_
    refine gf_Sq_30 Sf r 0 rfl rfl dSq_chosenAt_50 ?_
    refine gf_Sq_70 Sf r 5 rfl rfl dSq_chosenAt_53 ?_
    refine lv_iload_n hx hb dSq_chosenAt_56 rfl (lv_at hl 1 rfl) ?_
    refine z_iald hx hb r 6 (k := i) rfl (by omega) (by omega) dSq_chosenAt_57 ?_
    exact hret _ _ _ dSq_chosenAt_58 (rfl)

def rm_Seq_arrange : Room := { frames := 6, cells := 0, slots := 0, locals := 174 }
set_option maxHeartbeats 4000000 in
set_option maxRecDepth 100000 in
theorem c_Seq_arrange (l : Launch) (G : zG) (sq sr pl na ba : Nat) (g av an : Nat) (n : Nat) (st : Int32) (kd wd fi ci mx kn : Nat) (fo ce le kn2 cn : Nat) (V Nb Pl Fo Od Bg : Nat → Nat) (nk : Nat) (hn : n ≤ 12) (hN : ∀ i, Nb i < 4096) (hV : ∀ j, V j ≤ 4) (hnk : nk < 5) (h1 : nk = 1 → ∀ i, i < n → 0 < Pl i ∧ Pl i ≤ n) (sz : Nat) : Met l ySq_arrange (.code ySq_arrange cSq_arrange 4 none :: zT) rm_Seq_arrange (zPw G [.ref sq, .int (nI nk)] [(sq, zO 4 [.ref g, .ref sr, .ref pl, .ref na, .ref ba, .int (nI kd), .int (mI wd), .int (nI fi), .int (nI ci), .int (nI mx), .int (nI kn)]), (g, zO 2 [.ref av, .ref an, .int (nI n), .int st]), (av, zI G 12 (fun j => nI (V j))), (an, zI G 12 (fun j => nI (Nb j))), (pl, zI G 12 (fun j => mI (Pl j))), (na, zI G 12 (fun j => nI (Od j))), (ba, zI G 12 (fun j => nI (Bg j))), (sr, zO 3 [.ref g, .ref fo, .ref ce, .ref le, .int (nI cn), .int (nI kn2)]), (fo, zI G 12 (fun j => nI (Fo j)))] sz) (zQ (S := Unit) G (fun u => none) (fun u => [(sq, zO 4 [.ref g, .ref sr, .ref pl, .ref na, .ref ba, .int (nI nk), .int (mI (wdF (bgC Nb n (arC (ctC Nb V Pl Fo n nk) Od n)) n)), .int (nI (flC Nb n (arC (ctC Nb V Pl Fo n nk) Od n) n)), .int (nI (sumF (fun i => cellsF V (bgC Nb n (arC (ctC Nb V Pl Fo n nk) Od n) i) n) n)), .int (nI (mcF V (bgC Nb n (arC (ctC Nb V Pl Fo n nk) Od n)) n n)), .int (nI 1)]), (g, zO 2 [.ref av, .ref an, .int (nI n), .int st]), (av, zI G 12 (fun j => nI (V j))), (an, zI G 12 (fun j => nI (Nb j))), (pl, zI G 12 (fun j => mI (Pl j))), (na, zI G 12 (fun j => nI ((arC (ctC Nb V Pl Fo n nk) Od n) j))), (ba, zI G 12 (fun j => nI ((rowF Bg (bgC Nb n (arC (ctC Nb V Pl Fo n nk) Od n)) n) j))), (sr, zO 3 [.ref g, .ref fo, .ref ce, .ref le, .int (nI cn), .int (nI kn2)]), (fo, zI G 12 (fun j => nI (Fo j)))]) (va_A [(sq, zO 4 [.ref g, .ref sr, .ref pl, .ref na, .ref ba, .int (nI kd), .int (mI wd), .int (nI fi), .int (nI ci), .int (nI mx), .int (nI kn)]), (g, zO 2 [.ref av, .ref an, .int (nI n), .int st]), (av, zI G 12 (fun j => nI (V j))), (an, zI G 12 (fun j => nI (Nb j))), (pl, zI G 12 (fun j => mI (Pl j))), (na, zI G 12 (fun j => nI (Od j))), (ba, zI G 12 (fun j => nI (Bg j))), (sr, zO 3 [.ref g, .ref fo, .ref ce, .ref le, .int (nI cn), .int (nI kn2)]), (fo, zI G 12 (fun j => nI (Fo j)))] sz) (fun u => True)) 0 0 (va_A [(sq, zO 4 [.ref g, .ref sr, .ref pl, .ref na, .ref ba, .int (nI kd), .int (mI wd), .int (nI fi), .int (nI ci), .int (nI mx), .int (nI kn)]), (g, zO 2 [.ref av, .ref an, .int (nI n), .int st]), (av, zI G 12 (fun j => nI (V j))), (an, zI G 12 (fun j => nI (Nb j))), (pl, zI G 12 (fun j => mI (Pl j))), (na, zI G 12 (fun j => nI (Od j))), (ba, zI G 12 (fun j => nI (Bg j))), (sr, zO 3 [.ref g, .ref fo, .ref ce, .ref le, .int (nI cn), .int (nI kn2)]), (fo, zI G 12 (fun j => nI (Fo j)))] sz) := by
  refine z_metWv (by decide) (Nat.le_of_ble_eq_true rfl) (fun p e s m args below meth c ls A Q Sf hnm w hl hret => ?_)
  obtain ⟨H, hH⟩ : ∃ H, H = s.heap := ⟨_, rfl⟩
  obtain ⟨locs, hlo⟩ : ∃ L : List Loc, L = [] := ⟨_, rfl⟩
  rw [← hH, ← hlo] at w
  rw [← hH, ← hlo]
  clear hH hlo
  have Sf : CallFix p m c cSq_arrange 4 s args zT RSq := Sf
  have hx := Sf.1
  have hb := Sf.2.1
  have hown := Sf.2.2.2.1
  have hts := Sf.2.2.2.2
  have hl : lv_has ls 4 [(0, .ref sq), (1, .int (nI nk))] := hl
  refine lv_aload_n hx hb dSq_arrange_0 rfl (lv_at hl 0 rfl) ?_
  refine lv_iload_n hx hb dSq_arrange_1 rfl (lv_at hl 1 rfl) ?_
  refine pf_Sq_57 Sf w 0 rfl rfl rfl (Nat.le_of_ble_eq_true rfl) (ws' := [(sq, zO 4 [.ref g, .ref sr, .ref pl, .ref na, .ref ba, .int (nI nk), .int (mI wd), .int (nI fi), .int (nI ci), .int (nI mx), .int (nI kn)]), (g, zO 2 [.ref av, .ref an, .int (nI n), .int st]), (av, zI G 12 (fun j => nI (V j))), (an, zI G 12 (fun j => nI (Nb j))), (pl, zI G 12 (fun j => mI (Pl j))), (na, zI G 12 (fun j => nI (Od j))), (ba, zI G 12 (fun j => nI (Bg j))), (sr, zO 3 [.ref g, .ref fo, .ref ce, .ref le, .int (nI cn), .int (nI kn2)]), (fo, zI G 12 (fun j => nI (Fo j)))]) rfl dSq_arrange_2 (fun H locs w => ?_)
  refine lv_aload_n hx hb dSq_arrange_5 rfl (lv_at hl 0 rfl) ?_
  refine gf_Sq_57 Sf w.1 0 rfl rfl dSq_arrange_6 ?_
  refine lv_iconst (v := (nI 5)) hx hb dSq_arrange_9 (by decide) ?_
  refine z_icmpne (tgt := 20) hx hb (by omega) (by omega) dSq_arrange_10 (by decide) (fun c10 => ?_) (fun c10 => ?_)
  · skip
    refine lv_iconst (v := (nI 0)) hx hb dSq_arrange_20 (by decide) ?_
    refine lv_istore_n (lv' := [(2, .int (nI 0)), (0, .ref sq), (1, .int (nI nk))]) hx hb dSq_arrange_21 rfl hl (by decide) rfl (fun ls hl => ?_)
    refine lv_iconst (v := (nI 0)) hx hb dSq_arrange_22 (by decide) ?_
    refine lv_istore_n (lv' := [(3, .int (nI 0)), (2, .int (nI 0)), (0, .ref sq), (1, .int (nI nk))]) hx hb dSq_arrange_23 rfl hl (by decide) rfl (fun ls hl => ?_)
    have L24 : ∀ (fu24 : Nat) (gone i : Nat) (F : Nat → Nat), (i ≤ n) → (gone = goF F i) → (F = arC (ctC Nb V Pl Fo n nk) Od i) → (∀ j, j < i → F j < n) → (gone < 4096) → (n - i) < fu24 → ∀ (H : Heap) (locs : List Loc), zw G A s [(sq, zO 4 [.ref g, .ref sr, .ref pl, .ref na, .ref ba, .int (nI nk), .int (mI wd), .int (nI fi), .int (nI ci), .int (nI mx), .int (nI kn)]), (g, zO 2 [.ref av, .ref an, .int (nI n), .int st]), (av, zI G 12 (fun j => nI (V j))), (an, zI G 12 (fun j => nI (Nb j))), (pl, zI G 12 (fun j => mI (Pl j))), (na, zI G 12 (fun j => nI (F j))), (ba, zI G 12 (fun j => nI (Bg j))), (sr, zO 3 [.ref g, .ref fo, .ref ce, .ref le, .int (nI cn), .int (nI kn2)]), (fo, zI G 12 (fun j => nI (Fo j)))] H locs → ∀ (ls : Array Slot), lv_has ls 4 [(3, .int (nI i)), (2, .int (nI gone)), (0, .ref sq), (1, .int (nI nk))] → W p l e rm_Seq_arrange s m args below meth c H locs 0 0 Q (F0 m 24 ls []) := by
      intro fu24
      induction fu24 with
      | zero =>
        intro gone i F hi hgo hF hFn hg0 hm24
        exact absurd hm24 (Nat.not_lt_zero _)
      | succ fu24 ih24 =>
        intro gone i F hi hgo hF hFn hg0 hm24 H locs w ls hl
        refine lv_iload_n hx hb dSq_arrange_24 rfl (lv_at hl 0 rfl) ?_
        refine lv_aload_n hx hb dSq_arrange_25 rfl (lv_at hl 2 rfl) ?_
        refine gf_Sq_21 Sf w.1 0 rfl rfl dSq_arrange_26 ?_
        refine gf_Sq_40 Sf w.1 1 rfl rfl dSq_arrange_29 ?_
        refine z_icmpge (tgt := 64) hx hb (by omega) (by omega) dSq_arrange_32 (by decide) (fun c32 => ?_) (fun c32 => ?_)
        · skip
          refine lv_aload_n hx hb dSq_arrange_64 rfl (lv_at hl 2 rfl) ?_
          refine z_wV (wr := [(pl, zI G 12 (fun j => mI (Pl j))), (sr, zO 3 [.ref g, .ref fo, .ref ce, .ref le, .int (nI cn), .int (nI kn2)]), (fo, zI G 12 (fun j => nI (Fo j)))]) (As := []) (rest := []) Sf (c_Seq_takeAllOut l G sq sr pl na ba g av an n st nk wd fi ci mx kn V Nb F Bg (by first | assumption | omega) (by first | assumption | omega) (by first | assumption | omega) (fun j hj => hFn j (by omega)) H.size) mv_Sq_60 ⟨rfl, rfl⟩ ⟨Nat.le_of_ble_eq_true rfl, Nat.le_of_ble_eq_true rfl⟩ w [0, 1, 2, 3, 5, 6] [4, 7, 8] rfl rfl (by decide) (by decide) (by decide) 0 rfl rfl rfl rfl hl.1 rfl (Nat.le_of_ble_eq_true rfl) dSq_arrange_65 ⟨Nat.le_of_ble_eq_true rfl, Nat.le_of_ble_eq_true rfl⟩ (fun u1 H locs hu1 w => ?_)
          have w := w.eq (ws' := [(pl, zI G 12 (fun j => mI (Pl j))), (sr, zO 3 [.ref g, .ref fo, .ref ce, .ref le, .int (nI cn), .int (nI kn2)]), (fo, zI G 12 (fun j => nI (Fo j))), (sq, zO 4 [.ref g, .ref sr, .ref pl, .ref na, .ref ba, .int (nI nk), .int (mI (wdF (bgC Nb n F) n)), .int (nI (flC Nb n F n)), .int (nI (sumF (fun i => cellsF V (bgC Nb n F i) n) n)), .int (nI (mcF V (bgC Nb n F) n n)), .int (nI 1)]), (g, zO 2 [.ref av, .ref an, .int (nI n), .int st]), (av, zI G 12 (fun j => nI (V j))), (an, zI G 12 (fun j => nI (Nb j))), (na, zI G 12 (fun j => nI (F j))), (ba, zI G 12 (fun j => nI ((rowF Bg (bgC Nb n F) n) j)))]) rfl
          refine W.eq (g2 := F0 m 68 ls []) rfl ?_
          have w := w.perm (ws' := [(sq, zO 4 [.ref g, .ref sr, .ref pl, .ref na, .ref ba, .int (nI nk), .int (mI (wdF (bgC Nb n F) n)), .int (nI (flC Nb n F n)), .int (nI (sumF (fun i => cellsF V (bgC Nb n F i) n) n)), .int (nI (mcF V (bgC Nb n F) n n)), .int (nI 1)]), (g, zO 2 [.ref av, .ref an, .int (nI n), .int st]), (av, zI G 12 (fun j => nI (V j))), (an, zI G 12 (fun j => nI (Nb j))), (pl, zI G 12 (fun j => mI (Pl j))), (na, zI G 12 (fun j => nI (F j))), (ba, zI G 12 (fun j => nI ((rowF Bg (bgC Nb n F) n) j))), (sr, zO 3 [.ref g, .ref fo, .ref ce, .ref le, .int (nI cn), .int (nI kn2)]), (fo, zI G 12 (fun j => nI (Fo j)))]) [3, 4, 5, 6, 0, 7, 8, 1, 2] (by decide) rfl
          exact hret _ _ _ _ () _ w (by rw [hF, show i = n by omega]) (trivial) dSq_arrange_68 rfl
        · skip
          have hct := ctC_lt (Nb := Nb) (V := V) (Fo := Fo) (gone := gone) (show i < n by omega) h1 (fun q => absurd q (by omega))
          refine lv_aload_n hx hb dSq_arrange_35 rfl (lv_at hl 2 rfl) ?_
          refine gf_Sq_15 Sf w.1 0 rfl rfl dSq_arrange_36 ?_
          refine lv_iload_n hx hb dSq_arrange_39 rfl (lv_at hl 0 rfl) ?_
          refine lv_aload_n hx hb dSq_arrange_40 rfl (lv_at hl 2 rfl) ?_
          refine lv_iload_n hx hb dSq_arrange_41 rfl (lv_at hl 0 rfl) ?_
          refine lv_iload_n hx hb dSq_arrange_42 rfl (lv_at hl 1 rfl) ?_
          refine z_rV (As := [.int (nI i), .int (nI gone)]) (rest := [.int (nI i), .ref na]) Sf (c_Seq_chosenAt l G sq sr pl na ba g av an n st nk wd fi ci mx kn fo ce le kn2 cn V Nb Pl Fo i gone (by first | assumption | omega) (by first | assumption | omega) (by first | assumption | omega) (by first | assumption | omega) (by first | assumption | omega) (by first | assumption | omega) (by first | assumption | omega)) mv_Sq_66 ⟨rfl, rfl⟩ ⟨Nat.le_of_ble_eq_true rfl, Nat.le_of_ble_eq_true rfl⟩ w.1 [0, 1, 2, 3, 4, 7, 8] rfl 0 rfl rfl rfl rfl hl.1 rfl (Nat.le_of_ble_eq_true rfl) dSq_arrange_43 ⟨Nat.le_of_ble_eq_true rfl, Nat.le_of_ble_eq_true rfl⟩ ?_
          refine z_iastN hx hb w 5 (k := i) rfl (by omega) (by omega) (ws' := [(sq, zO 4 [.ref g, .ref sr, .ref pl, .ref na, .ref ba, .int (nI nk), .int (mI wd), .int (nI fi), .int (nI ci), .int (nI mx), .int (nI kn)]), (g, zO 2 [.ref av, .ref an, .int (nI n), .int st]), (av, zI G 12 (fun j => nI (V j))), (an, zI G 12 (fun j => nI (Nb j))), (pl, zI G 12 (fun j => mI (Pl j))), (na, zI G 12 (fun j => nI ((va_up F i (ctC Nb V Pl Fo n nk i gone)) j))), (ba, zI G 12 (fun j => nI (Bg j))), (sr, zO 3 [.ref g, .ref fo, .ref ce, .ref le, .int (nI cn), .int (nI kn2)]), (fo, zI G 12 (fun j => nI (Fo j)))]) rfl dSq_arrange_46 (fun H locs w => ?_)
          refine lv_iload_n hx hb dSq_arrange_47 rfl (lv_at hl 1 rfl) ?_
          refine lv_iconst (v := (nI 1)) hx hb dSq_arrange_48 (by decide) ?_
          refine lv_aload_n hx hb dSq_arrange_49 rfl (lv_at hl 2 rfl) ?_
          refine gf_Sq_15 Sf w.1 0 rfl rfl dSq_arrange_50 ?_
          refine lv_iload_n hx hb dSq_arrange_53 rfl (lv_at hl 0 rfl) ?_
          refine z_iald hx hb w.1 5 (k := i) rfl (by omega) (by omega) dSq_arrange_54 ?_
          rw [va_up_self]
          refine z_shl1 hx hb (by omega) dSq_arrange_55 ?_
          refine z_orN hx hb dSq_arrange_56 ?_
          refine lv_istore_n (lv' := [(2, .int (nI (gone ||| (2 ^ (ctC Nb V Pl Fo n nk i gone))))), (3, .int (nI i)), (0, .ref sq), (1, .int (nI nk))]) hx hb dSq_arrange_57 rfl hl (by decide) rfl (fun ls hl => ?_)
          refine z_iinc (d := 1) (lv' := [(3, .int (nI (i + 1))), (2, .int (nI (gone ||| (2 ^ (ctC Nb V Pl Fo n nk i gone))))), (0, .ref sq), (1, .int (nI nk))]) hx hb dSq_arrange_58 hl (k := 1) rfl (by decide) (by decide) rfl (fun ls hl => ?_)
          refine lv_goto (tgt := 24) hx hb dSq_arrange_61 (by decide) ?_
          refine ih24 (gone ||| (2 ^ (ctC Nb V Pl Fo n nk i gone))) (i + 1) (va_up F i (ctC Nb V Pl Fo n nk i gone)) ?_ ?_ ?_ ?_ ?_ ?_ _ _ w ls (lv_sub hl [0, 1, 2, 3] rfl)
          · omega
          · simp only [goF]; rw [goF_up i (Nat.le_refl i), va_up_self, ← hgo]
          · simp only [arC]; rw [← hF, ← hgo]
          · exact fun j hj => by
              by_cases q : j = i
              · rw [q, va_up_self]; exact hct
              · rw [va_up_ne _ _ q]; exact hFn j (by omega)
          · exact or_lt hg0 (pw_lt (by omega))
          · omega
    refine L24 ((n - 0) + 1) 0 0 Od ?_ ?_ ?_ ?_ ?_ ?_ _ _ w ls (lv_sub hl [0, 1, 2, 3] rfl)
    · omega
    · rfl
    · rfl
    · exact fun j hj => absurd hj (Nat.not_lt_zero _)
    · omega
    · exact Nat.lt_succ_self _
  · skip
    exact absurd c10 (by omega)

def rm_Seq_parentOf : Room := { frames := 0, cells := 0, slots := 0, locals := 0 }
set_option maxHeartbeats 4000000 in
set_option maxRecDepth 100000 in
theorem c_Seq_parentOf (l : Launch) (G : zG) (sq sr pl na ba : Nat) (g av an : Nat) (n : Nat) (st : Int32) (kd wd fi ci mx kn : Nat) (Od Bg : Nat → Nat) (i : Nat) (hn : n ≤ 12) (hi : i < n) (hOd : ∀ i, Od i < 12) (hBg : ∀ i, Bg i < 4096) : Met l ySq_parentOf (.code ySq_parentOf cSq_parentOf 3 (some .int) :: zT) rm_Seq_parentOf (zPr G [.ref sq, .int (nI i)] [(sq, zO 4 [.ref g, .ref sr, .ref pl, .ref na, .ref ba, .int (nI kd), .int (mI wd), .int (nI fi), .int (nI ci), .int (nI mx), .int (nI kn)]), (g, zO 2 [.ref av, .ref an, .int (nI n), .int st]), (na, zI G 12 (fun j => nI (Od j))), (ba, zI G 12 (fun j => nI (Bg j)))]) (k2_QcV (.int (mI (parF (Bg i) Od (n - (i + 1)) (i + 1))))) 0 0 (fun _ => False) := by
  refine z_metRi (by decide) (Nat.le_of_ble_eq_true rfl) (fun p e s m args below meth c ls Q Sf r hl hret => ?_)
  have Sf : CallFix p m c cSq_parentOf 3 s args zT RSq := Sf
  have hx := Sf.1
  have hb := Sf.2.1
  have hown := Sf.2.2.2.1
  have hts := Sf.2.2.2.2
  have hl : lv_has ls 3 [(0, .ref sq), (1, .int (nI i))] := hl
  refine lv_iload_n hx hb dSq_parentOf_0 rfl (lv_at hl 1 rfl) ?_
  refine lv_iconst (v := (nI 1)) hx hb dSq_parentOf_1 (by decide) ?_
  refine z_addN hx hb dSq_parentOf_2 ?_
  refine lv_istore_n (lv' := [(2, .int (nI (i + 1))), (0, .ref sq), (1, .int (nI i))]) hx hb dSq_parentOf_3 rfl hl (by decide) rfl (fun ls hl => ?_)
  have L4 : ∀ (fu4 : Nat) (j : Nat), (j ≤ n) → (parF (Bg i) Od (n - (i + 1)) (i + 1) = parF (Bg i) Od (n - j) j) → (n - j) < fu4 → ∀ (ls : Array Slot), lv_has ls 3 [(2, .int (nI j)), (0, .ref sq), (1, .int (nI i))] → W p l e rm_Seq_parentOf s m args below meth c s.heap [] 0 0 Q (F0 m 4 ls []) := by
    intro fu4
    induction fu4 with
    | zero =>
      intro j hj hp hm4
      exact absurd hm4 (Nat.not_lt_zero _)
    | succ fu4 ih4 =>
      intro j hj hp hm4 ls hl
      have ho := hOd j
      have hbi := hBg i
      refine lv_iload_n hx hb dSq_parentOf_4 rfl (lv_at hl 0 rfl) ?_
      refine lv_aload_n hx hb dSq_parentOf_5 rfl (lv_at hl 1 rfl) ?_
      refine gf_Sq_21 Sf r 0 rfl rfl dSq_parentOf_6 ?_
      refine gf_Sq_40 Sf r 1 rfl rfl dSq_parentOf_9 ?_
      refine z_icmpge (tgt := 41) hx hb (by omega) (by omega) dSq_parentOf_12 (by decide) (fun c12 => ?_) (fun c12 => ?_)
      · skip
        refine lv_iconst (v := (mI 0)) hx hb dSq_parentOf_41 (by decide) ?_
        exact hret _ _ _ dSq_parentOf_42 (by rw [hp, show n - j = 0 by omega]; rfl)
      · skip
        refine lv_aload_n hx hb dSq_parentOf_15 rfl (lv_at hl 1 rfl) ?_
        refine gf_Sq_18 Sf r 0 rfl rfl dSq_parentOf_16 ?_
        refine lv_iload_n hx hb dSq_parentOf_19 rfl (lv_at hl 2 rfl) ?_
        refine z_iald hx hb r 3 (k := i) rfl (by omega) (by omega) dSq_parentOf_20 ?_
        refine lv_iconst (v := (nI 1)) hx hb dSq_parentOf_21 (by decide) ?_
        refine lv_aload_n hx hb dSq_parentOf_22 rfl (lv_at hl 1 rfl) ?_
        refine gf_Sq_15 Sf r 0 rfl rfl dSq_parentOf_23 ?_
        refine lv_iload_n hx hb dSq_parentOf_26 rfl (lv_at hl 0 rfl) ?_
        refine z_iald hx hb r 2 (k := j) rfl (by omega) (by omega) dSq_parentOf_27 ?_
        refine z_shl1 hx hb (by omega) dSq_parentOf_28 ?_
        refine z_andN hx hb dSq_parentOf_29 ?_
        refine z_ifeqbit (tgt := 35) hx hb (by omega) dSq_parentOf_30 (by decide) (fun c30 => ?_) (fun c30 => ?_)
        · skip
          refine z_iinc (d := 1) (lv' := [(2, .int (nI (j + 1))), (0, .ref sq), (1, .int (nI i))]) hx hb dSq_parentOf_35 hl (k := 0) rfl (by decide) (by decide) rfl (fun ls hl => ?_)
          refine lv_goto (tgt := 4) hx hb dSq_parentOf_38 (by decide) ?_
          refine ih4 (j + 1) ?_ ?_ ?_ ls (lv_sub hl [0, 1, 2] rfl)
          · omega
          · rw [hp, show n - j = (n - (j + 1)) + 1 by omega, parF_f c30]
          · omega
        · skip
          refine lv_iload_n hx hb dSq_parentOf_33 rfl (lv_at hl 0 rfl) ?_
          exact hret _ _ _ dSq_parentOf_34 (by rw [hp, show n - j = (n - (j + 1)) + 1 by omega, parF_t c30]; exact (mI_s j).symm)
  refine L4 ((n - (i + 1)) + 1) (i + 1) ?_ ?_ ?_ ls (lv_sub hl [0, 1, 2] rfl)
  · omega
  · rfl
  · exact Nat.lt_succ_self _
