def rm_Seq_arrange50 : Room := { frames := 6, cells := 0, slots := 0, locals := 174 }
set_option maxHeartbeats 4000000 in
set_option maxRecDepth 100000 in
theorem c_Seq_arrange50 (l : Launch) (G : zG) (sq sr pl na ba : Nat) (g av an : Nat) (n : Nat) (st : Int32) (kd wd fi ci mx kn : Nat) (fo ce le kn2 cn : Nat) (V Nb Pl Fo Lc Le Od Bg : Nat → Nat) (hn : n ≤ 12) (hN : ∀ i, Nb i < 4096) (hV : ∀ j, V j ≤ 4) (hk2 : kn2 = 0) (hcn : cn ≤ 2 ^ n) (hce : ∀ j, j < cn → Lc j = cellsF V j n) (hLe : ∀ i, Le i ≤ 268435457) (hLc : ∀ i, Lc i ≤ 16777216) (hbn : ∀ a o, a < n → o < 2 ^ n → bagF Nb n a o < 2 ^ n) (h5 : ∀ i, i < n → (fdR V Nb Lc Le Fo n) i < n) (sz : Nat) : Met l ySq_arrange (.code ySq_arrange cSq_arrange 4 none :: zT) rm_Seq_arrange50 (zPw G [.ref sq, .int (nI 5)] [(sq, zO 4 [.ref g, .ref sr, .ref pl, .ref na, .ref ba, .int (nI kd), .int (mI wd), .int (nI fi), .int (nI ci), .int (nI mx), .int (nI kn)]), (g, zO 2 [.ref av, .ref an, .int (nI n), .int st]), (av, zI G 12 (fun j => nI (V j))), (an, zI G 12 (fun j => nI (Nb j))), (pl, zI G 12 (fun j => mI (Pl j))), (na, zI G 12 (fun j => nI (Od j))), (ba, zI G 12 (fun j => nI (Bg j))), (sr, zO 3 [.ref g, .ref fo, .ref ce, .ref le, .int (nI cn), .int (nI kn2)]), (ce, zI G 4096 (fun j => nI (Lc j))), (le, zI G 4096 (fun j => mI (Le j))), (fo, zI G 12 (fun j => nI (Fo j)))] sz) (zQ (S := Unit) G (fun u => none) (fun u => [(sq, zO 4 [.ref g, .ref sr, .ref pl, .ref na, .ref ba, .int (nI 5), .int (mI (wdF (bgC Nb n (arC (ctC Nb V Pl (fdR V Nb Lc Le Fo n) n 5) Od n)) n)), .int (nI (flC Nb n (arC (ctC Nb V Pl (fdR V Nb Lc Le Fo n) n 5) Od n) n)), .int (nI (sumF (fun i => cellsF V (bgC Nb n (arC (ctC Nb V Pl (fdR V Nb Lc Le Fo n) n 5) Od n) i) n) n)), .int (nI (mcF V (bgC Nb n (arC (ctC Nb V Pl (fdR V Nb Lc Le Fo n) n 5) Od n)) n n)), .int (nI 1)]), (g, zO 2 [.ref av, .ref an, .int (nI n), .int st]), (av, zI G 12 (fun j => nI (V j))), (an, zI G 12 (fun j => nI (Nb j))), (pl, zI G 12 (fun j => mI (Pl j))), (na, zI G 12 (fun j => nI ((arC (ctC Nb V Pl (fdR V Nb Lc Le Fo n) n 5) Od n) j))), (ba, zI G 12 (fun j => nI ((rowF Bg (bgC Nb n (arC (ctC Nb V Pl (fdR V Nb Lc Le Fo n) n 5) Od n)) n) j))), (sr, zO 3 [.ref g, .ref fo, .ref ce, .ref le, .int (nI (2 ^ n)), .int (nI 1)]), (ce, zI G 4096 (fun j => nI ((clR V Lc n) j))), (le, zI G 4096 (fun j => mI ((ccR Nb (clR V Lc n) (lwR Nb Le n (2 ^ n - 1)) n (lwR Nb Le n (2 ^ n - 1) 0) (2 ^ n - 1)) j))), (fo, zI G 12 (fun j => nI ((fdR V Nb Lc Le Fo n) j)))]) (va_A [(sq, zO 4 [.ref g, .ref sr, .ref pl, .ref na, .ref ba, .int (nI kd), .int (mI wd), .int (nI fi), .int (nI ci), .int (nI mx), .int (nI kn)]), (g, zO 2 [.ref av, .ref an, .int (nI n), .int st]), (av, zI G 12 (fun j => nI (V j))), (an, zI G 12 (fun j => nI (Nb j))), (pl, zI G 12 (fun j => mI (Pl j))), (na, zI G 12 (fun j => nI (Od j))), (ba, zI G 12 (fun j => nI (Bg j))), (sr, zO 3 [.ref g, .ref fo, .ref ce, .ref le, .int (nI cn), .int (nI kn2)]), (ce, zI G 4096 (fun j => nI (Lc j))), (le, zI G 4096 (fun j => mI (Le j))), (fo, zI G 12 (fun j => nI (Fo j)))] sz) (fun u => True)) 0 0 (va_A [(sq, zO 4 [.ref g, .ref sr, .ref pl, .ref na, .ref ba, .int (nI kd), .int (mI wd), .int (nI fi), .int (nI ci), .int (nI mx), .int (nI kn)]), (g, zO 2 [.ref av, .ref an, .int (nI n), .int st]), (av, zI G 12 (fun j => nI (V j))), (an, zI G 12 (fun j => nI (Nb j))), (pl, zI G 12 (fun j => mI (Pl j))), (na, zI G 12 (fun j => nI (Od j))), (ba, zI G 12 (fun j => nI (Bg j))), (sr, zO 3 [.ref g, .ref fo, .ref ce, .ref le, .int (nI cn), .int (nI kn2)]), (ce, zI G 4096 (fun j => nI (Lc j))), (le, zI G 4096 (fun j => mI (Le j))), (fo, zI G 12 (fun j => nI (Fo j)))] sz) := by
  refine z_metWv (by decide) (Nat.le_of_ble_eq_true rfl) (fun p e s m args below meth c ls A Q Sf hnm w hl hret => ?_)
  obtain ⟨H, hH⟩ : ∃ H, H = s.heap := ⟨_, rfl⟩
  obtain ⟨locs, hlo⟩ : ∃ L : List Loc, L = [] := ⟨_, rfl⟩
  rw [← hH, ← hlo] at w
  rw [← hH, ← hlo]
  clear hH hlo
  have Sf : CallFix p m c cSq_arrange 4 s args zT RSq := Sf
  have hx := Sf.1
  have hb := Sf.2.1
  have hown := Sf.2.2.2.1
  have hts := Sf.2.2.2.2
  have hl : lv_has ls 4 [(0, .ref sq), (1, .int (nI 5))] := hl
  refine lv_aload_n hx hb dSq_arrange_0 rfl (lv_at hl 0 rfl) ?_
  refine lv_iload_n hx hb dSq_arrange_1 rfl (lv_at hl 1 rfl) ?_
  refine pf_Sq_57 Sf w 0 rfl rfl rfl (Nat.le_of_ble_eq_true rfl) (ws' := [(sq, zO 4 [.ref g, .ref sr, .ref pl, .ref na, .ref ba, .int (nI 5), .int (mI wd), .int (nI fi), .int (nI ci), .int (nI mx), .int (nI kn)]), (g, zO 2 [.ref av, .ref an, .int (nI n), .int st]), (av, zI G 12 (fun j => nI (V j))), (an, zI G 12 (fun j => nI (Nb j))), (pl, zI G 12 (fun j => mI (Pl j))), (na, zI G 12 (fun j => nI (Od j))), (ba, zI G 12 (fun j => nI (Bg j))), (sr, zO 3 [.ref g, .ref fo, .ref ce, .ref le, .int (nI cn), .int (nI kn2)]), (ce, zI G 4096 (fun j => nI (Lc j))), (le, zI G 4096 (fun j => mI (Le j))), (fo, zI G 12 (fun j => nI (Fo j)))]) rfl dSq_arrange_2 (fun H locs w => ?_)
  refine lv_aload_n hx hb dSq_arrange_5 rfl (lv_at hl 0 rfl) ?_
  refine gf_Sq_57 Sf w.1 0 rfl rfl dSq_arrange_6 ?_
  refine lv_iconst (v := (nI 5)) hx hb dSq_arrange_9 (by decide) ?_
  refine z_icmpne (tgt := 20) hx hb (by decide) (by decide) dSq_arrange_10 (by decide) (fun q => absurd q (by decide)) (fun _ => ?_)
  refine lv_aload_n hx hb dSq_arrange_13 rfl (lv_at hl 0 rfl) ?_
  refine gf_Sq_30 Sf w.1 0 rfl rfl dSq_arrange_14 ?_
  refine z_wV (wr := [(sq, zO 4 [.ref g, .ref sr, .ref pl, .ref na, .ref ba, .int (nI 5), .int (mI wd), .int (nI fi), .int (nI ci), .int (nI mx), .int (nI kn)]), (pl, zI G 12 (fun j => mI (Pl j))), (na, zI G 12 (fun j => nI (Od j))), (ba, zI G 12 (fun j => nI (Bg j)))]) (As := []) (rest := []) Sf (c_Search_find0 l G sr fo ce le g av an n st kn2 cn V Nb Lc Le Fo (by first | assumption | omega) (by first | assumption | omega) (by first | assumption | omega) (by first | assumption | omega) (by first | assumption | omega) (by first | assumption | omega) (by first | assumption | omega) (by first | assumption | omega) (by first | assumption | omega) H.size) mv_Sq_63 ⟨rfl, rfl⟩ ⟨Nat.le_of_ble_eq_true rfl, Nat.le_of_ble_eq_true rfl⟩ w [7, 1, 2, 3, 8, 9, 10] [0, 4, 5, 6] rfl rfl (by decide) (by decide) (by decide) 7 rfl rfl rfl rfl hl.1 rfl (Nat.le_of_ble_eq_true rfl) dSq_arrange_17 ⟨Nat.le_of_ble_eq_true rfl, Nat.le_of_ble_eq_true rfl⟩ (fun u1 H locs hu1 w => ?_)
  have w := w.eq (ws' := [(sq, zO 4 [.ref g, .ref sr, .ref pl, .ref na, .ref ba, .int (nI 5), .int (mI wd), .int (nI fi), .int (nI ci), .int (nI mx), .int (nI kn)]), (pl, zI G 12 (fun j => mI (Pl j))), (na, zI G 12 (fun j => nI (Od j))), (ba, zI G 12 (fun j => nI (Bg j))), (sr, zO 3 [.ref g, .ref fo, .ref ce, .ref le, .int (nI (2 ^ n)), .int (nI 1)]), (g, zO 2 [.ref av, .ref an, .int (nI n), .int st]), (av, zI G 12 (fun j => nI (V j))), (an, zI G 12 (fun j => nI (Nb j))), (ce, zI G 4096 (fun j => nI ((clR V Lc n) j))), (le, zI G 4096 (fun j => mI ((ccR Nb (clR V Lc n) (lwR Nb Le n (2 ^ n - 1)) n (lwR Nb Le n (2 ^ n - 1) 0) (2 ^ n - 1)) j))), (fo, zI G 12 (fun j => nI ((fdR V Nb Lc Le Fo n) j)))]) rfl
  refine W.eq (g2 := F0 m 20 ls []) rfl ?_
  refine lv_iconst (v := (nI 0)) hx hb dSq_arrange_20 (by decide) ?_
  refine lv_istore_n (lv' := [(2, .int (nI 0)), (0, .ref sq), (1, .int (nI 5))]) hx hb dSq_arrange_21 rfl hl (by decide) rfl (fun ls hl => ?_)
  refine lv_iconst (v := (nI 0)) hx hb dSq_arrange_22 (by decide) ?_
  refine lv_istore_n (lv' := [(3, .int (nI 0)), (2, .int (nI 0)), (0, .ref sq), (1, .int (nI 5))]) hx hb dSq_arrange_23 rfl hl (by decide) rfl (fun ls hl => ?_)
  have L24 : ∀ (fu24 : Nat) (gone i : Nat) (F : Nat → Nat), (i ≤ n) → (gone = goF F i) → (F = arC (ctC Nb V Pl (fdR V Nb Lc Le Fo n) n 5) Od i) → (∀ j, j < i → F j < n) → (gone < 4096) → (n - i) < fu24 → ∀ (H : Heap) (locs : List Loc), zw G A s [(sq, zO 4 [.ref g, .ref sr, .ref pl, .ref na, .ref ba, .int (nI 5), .int (mI wd), .int (nI fi), .int (nI ci), .int (nI mx), .int (nI kn)]), (g, zO 2 [.ref av, .ref an, .int (nI n), .int st]), (av, zI G 12 (fun j => nI (V j))), (an, zI G 12 (fun j => nI (Nb j))), (pl, zI G 12 (fun j => mI (Pl j))), (na, zI G 12 (fun j => nI (F j))), (ba, zI G 12 (fun j => nI (Bg j))), (sr, zO 3 [.ref g, .ref fo, .ref ce, .ref le, .int (nI (2 ^ n)), .int (nI 1)]), (ce, zI G 4096 (fun j => nI ((clR V Lc n) j))), (le, zI G 4096 (fun j => mI ((ccR Nb (clR V Lc n) (lwR Nb Le n (2 ^ n - 1)) n (lwR Nb Le n (2 ^ n - 1) 0) (2 ^ n - 1)) j))), (fo, zI G 12 (fun j => nI ((fdR V Nb Lc Le Fo n) j)))] H locs → ∀ (ls : Array Slot), lv_has ls 4 [(3, .int (nI i)), (2, .int (nI gone)), (0, .ref sq), (1, .int (nI 5))] → W p l e rm_Seq_arrange50 s m args below meth c H locs 0 0 Q (F0 m 24 ls []) := by
    intro fu24
    induction fu24 with
    | zero =>
      intro gone i F hi hgo hF hFn hg0 hm24
      exact absurd hm24 (Nat.not_lt_zero _)
    | succ fu24 ih24 =>
      intro gone i F hi hgo hF hFn hg0 hm24 H locs w ls hl
      refine lv_iload_n hx hb dSq_arrange_24 rfl (lv_at hl 0 rfl) ?_
      refine lv_aload_n hx hb dSq_arrange_25 rfl (lv_at hl 2 rfl) ?_
      refine gf_Sq_21 Sf w.1 0 rfl rfl dSq_arrange_26 ?_
      refine gf_Sq_40 Sf w.1 1 rfl rfl dSq_arrange_29 ?_
      refine z_icmpge (tgt := 64) hx hb (by omega) (by omega) dSq_arrange_32 (by decide) (fun c32 => ?_) (fun c32 => ?_)
      · skip
        refine lv_aload_n hx hb dSq_arrange_64 rfl (lv_at hl 2 rfl) ?_
        refine z_wV (wr := [(pl, zI G 12 (fun j => mI (Pl j))), (sr, zO 3 [.ref g, .ref fo, .ref ce, .ref le, .int (nI (2 ^ n)), .int (nI 1)]), (ce, zI G 4096 (fun j => nI ((clR V Lc n) j))), (le, zI G 4096 (fun j => mI ((ccR Nb (clR V Lc n) (lwR Nb Le n (2 ^ n - 1)) n (lwR Nb Le n (2 ^ n - 1) 0) (2 ^ n - 1)) j))), (fo, zI G 12 (fun j => nI ((fdR V Nb Lc Le Fo n) j)))]) (As := []) (rest := []) Sf (c_Seq_takeAllOut l G sq sr pl na ba g av an n st 5 wd fi ci mx kn V Nb F Bg (by first | assumption | omega) (by first | assumption | omega) (by first | assumption | omega) (fun j hj => hFn j (by omega)) H.size) mv_Sq_60 ⟨rfl, rfl⟩ ⟨Nat.le_of_ble_eq_true rfl, Nat.le_of_ble_eq_true rfl⟩ w [0, 1, 2, 3, 5, 6] [4, 7, 8, 9, 10] rfl rfl (by decide) (by decide) (by decide) 0 rfl rfl rfl rfl hl.1 rfl (Nat.le_of_ble_eq_true rfl) dSq_arrange_65 ⟨Nat.le_of_ble_eq_true rfl, Nat.le_of_ble_eq_true rfl⟩ (fun u2 H locs hu2 w => ?_)
        have w := w.eq (ws' := [(pl, zI G 12 (fun j => mI (Pl j))), (sr, zO 3 [.ref g, .ref fo, .ref ce, .ref le, .int (nI (2 ^ n)), .int (nI 1)]), (ce, zI G 4096 (fun j => nI ((clR V Lc n) j))), (le, zI G 4096 (fun j => mI ((ccR Nb (clR V Lc n) (lwR Nb Le n (2 ^ n - 1)) n (lwR Nb Le n (2 ^ n - 1) 0) (2 ^ n - 1)) j))), (fo, zI G 12 (fun j => nI ((fdR V Nb Lc Le Fo n) j))), (sq, zO 4 [.ref g, .ref sr, .ref pl, .ref na, .ref ba, .int (nI 5), .int (mI (wdF (bgC Nb n F) n)), .int (nI (flC Nb n F n)), .int (nI (sumF (fun i => cellsF V (bgC Nb n F i) n) n)), .int (nI (mcF V (bgC Nb n F) n n)), .int (nI 1)]), (g, zO 2 [.ref av, .ref an, .int (nI n), .int st]), (av, zI G 12 (fun j => nI (V j))), (an, zI G 12 (fun j => nI (Nb j))), (na, zI G 12 (fun j => nI (F j))), (ba, zI G 12 (fun j => nI ((rowF Bg (bgC Nb n F) n) j)))]) rfl
        refine W.eq (g2 := F0 m 68 ls []) rfl ?_
        have w := w.perm (ws' := [(sq, zO 4 [.ref g, .ref sr, .ref pl, .ref na, .ref ba, .int (nI 5), .int (mI (wdF (bgC Nb n F) n)), .int (nI (flC Nb n F n)), .int (nI (sumF (fun i => cellsF V (bgC Nb n F i) n) n)), .int (nI (mcF V (bgC Nb n F) n n)), .int (nI 1)]), (g, zO 2 [.ref av, .ref an, .int (nI n), .int st]), (av, zI G 12 (fun j => nI (V j))), (an, zI G 12 (fun j => nI (Nb j))), (pl, zI G 12 (fun j => mI (Pl j))), (na, zI G 12 (fun j => nI (F j))), (ba, zI G 12 (fun j => nI ((rowF Bg (bgC Nb n F) n) j))), (sr, zO 3 [.ref g, .ref fo, .ref ce, .ref le, .int (nI (2 ^ n)), .int (nI 1)]), (ce, zI G 4096 (fun j => nI ((clR V Lc n) j))), (le, zI G 4096 (fun j => mI ((ccR Nb (clR V Lc n) (lwR Nb Le n (2 ^ n - 1)) n (lwR Nb Le n (2 ^ n - 1) 0) (2 ^ n - 1)) j))), (fo, zI G 12 (fun j => nI ((fdR V Nb Lc Le Fo n) j)))]) [5, 6, 7, 8, 0, 9, 10, 1, 2, 3, 4] (by decide) rfl
        exact hret _ _ _ _ () _ w (by rw [hF, show i = n by omega]) (trivial) dSq_arrange_68 rfl
      · skip
        have hct := ctC_lt (Nb := Nb) (V := V) (Pl := Pl) (Fo := fdR V Nb Lc Le Fo n) (gone := gone) (kd := 5) (show i < n by omega) (fun q => absurd q (by decide)) (fun _ => h5)
        refine lv_aload_n hx hb dSq_arrange_35 rfl (lv_at hl 2 rfl) ?_
        refine gf_Sq_15 Sf w.1 0 rfl rfl dSq_arrange_36 ?_
        refine lv_iload_n hx hb dSq_arrange_39 rfl (lv_at hl 0 rfl) ?_
        refine lv_aload_n hx hb dSq_arrange_40 rfl (lv_at hl 2 rfl) ?_
        refine lv_iload_n hx hb dSq_arrange_41 rfl (lv_at hl 0 rfl) ?_
        refine lv_iload_n hx hb dSq_arrange_42 rfl (lv_at hl 1 rfl) ?_
        refine z_rV (As := [.int (nI i), .int (nI gone)]) (rest := [.int (nI i), .ref na]) Sf (c_Seq_chosenAt l G sq sr pl na ba g av an n st 5 wd fi ci mx kn fo ce le 1 (2 ^ n) V Nb Pl (fdR V Nb Lc Le Fo n) i gone (by first | assumption | omega) (by first | assumption | omega) (by first | assumption | omega) (by decide) (by first | assumption | omega) (by first | assumption | omega) (fun q => absurd q (by decide))) mv_Sq_66 ⟨rfl, rfl⟩ ⟨Nat.le_of_ble_eq_true rfl, Nat.le_of_ble_eq_true rfl⟩ w.1 [0, 1, 2, 3, 4, 7, 10] rfl 0 rfl rfl rfl rfl hl.1 rfl (Nat.le_of_ble_eq_true rfl) dSq_arrange_43 ⟨Nat.le_of_ble_eq_true rfl, Nat.le_of_ble_eq_true rfl⟩ ?_
        refine z_iastN hx hb w 5 (k := i) rfl (by omega) (by omega) (ws' := [(sq, zO 4 [.ref g, .ref sr, .ref pl, .ref na, .ref ba, .int (nI 5), .int (mI wd), .int (nI fi), .int (nI ci), .int (nI mx), .int (nI kn)]), (g, zO 2 [.ref av, .ref an, .int (nI n), .int st]), (av, zI G 12 (fun j => nI (V j))), (an, zI G 12 (fun j => nI (Nb j))), (pl, zI G 12 (fun j => mI (Pl j))), (na, zI G 12 (fun j => nI ((va_up F i (ctC Nb V Pl (fdR V Nb Lc Le Fo n) n 5 i gone)) j))), (ba, zI G 12 (fun j => nI (Bg j))), (sr, zO 3 [.ref g, .ref fo, .ref ce, .ref le, .int (nI (2 ^ n)), .int (nI 1)]), (ce, zI G 4096 (fun j => nI ((clR V Lc n) j))), (le, zI G 4096 (fun j => mI ((ccR Nb (clR V Lc n) (lwR Nb Le n (2 ^ n - 1)) n (lwR Nb Le n (2 ^ n - 1) 0) (2 ^ n - 1)) j))), (fo, zI G 12 (fun j => nI ((fdR V Nb Lc Le Fo n) j)))]) rfl dSq_arrange_46 (fun H locs w => ?_)
        refine lv_iload_n hx hb dSq_arrange_47 rfl (lv_at hl 1 rfl) ?_
        refine lv_iconst (v := (nI 1)) hx hb dSq_arrange_48 (by decide) ?_
        refine lv_aload_n hx hb dSq_arrange_49 rfl (lv_at hl 2 rfl) ?_
        refine gf_Sq_15 Sf w.1 0 rfl rfl dSq_arrange_50 ?_
        refine lv_iload_n hx hb dSq_arrange_53 rfl (lv_at hl 0 rfl) ?_
        refine z_iald hx hb w.1 5 (k := i) rfl (by omega) (by omega) dSq_arrange_54 ?_
        rw [va_up_self]
        refine z_shl1 hx hb (by omega) dSq_arrange_55 ?_
        refine z_orN hx hb dSq_arrange_56 ?_
        refine lv_istore_n (lv' := [(2, .int (nI (gone ||| (2 ^ (ctC Nb V Pl (fdR V Nb Lc Le Fo n) n 5 i gone))))), (3, .int (nI i)), (0, .ref sq), (1, .int (nI 5))]) hx hb dSq_arrange_57 rfl hl (by decide) rfl (fun ls hl => ?_)
        refine z_iinc (d := 1) (lv' := [(3, .int (nI (i + 1))), (2, .int (nI (gone ||| (2 ^ (ctC Nb V Pl (fdR V Nb Lc Le Fo n) n 5 i gone))))), (0, .ref sq), (1, .int (nI 5))]) hx hb dSq_arrange_58 hl (k := 1) rfl (by decide) (by decide) rfl (fun ls hl => ?_)
        refine lv_goto (tgt := 24) hx hb dSq_arrange_61 (by decide) ?_
        refine ih24 (gone ||| (2 ^ (ctC Nb V Pl (fdR V Nb Lc Le Fo n) n 5 i gone))) (i + 1) (va_up F i (ctC Nb V Pl (fdR V Nb Lc Le Fo n) n 5 i gone)) ?_ ?_ ?_ ?_ ?_ ?_ _ _ w ls (lv_sub hl [0, 1, 2, 3] rfl)
        · omega
        · simp only [goF]; rw [goF_up i (Nat.le_refl i), va_up_self, ← hgo]
        · simp only [arC]; rw [← hF, ← hgo]
        · exact fun j hj => by
            by_cases q : j = i
            · rw [q, va_up_self]; exact hct
            · rw [va_up_ne _ _ q]; exact hFn j (by omega)
        · exact or_lt hg0 (pw_lt (by omega))
        · omega
  refine L24 ((n - 0) + 1) 0 0 Od ?_ ?_ ?_ ?_ ?_ ?_ _ _ (w.perm [0, 5, 6, 7, 1, 2, 3, 4, 8, 9, 10] (by decide) rfl) ls (lv_sub hl [0, 1, 2, 3] rfl)
  · omega
  · rfl
  · rfl
  · exact fun j hj => absurd hj (Nat.not_lt_zero _)
  · omega
  · exact Nat.lt_succ_self _

def rm_Seq_arrange51 : Room := { frames := 6, cells := 0, slots := 0, locals := 174 }
set_option maxHeartbeats 4000000 in
set_option maxRecDepth 100000 in
theorem c_Seq_arrange51 (l : Launch) (G : zG) (sq sr pl na ba : Nat) (g av an : Nat) (n : Nat) (st : Int32) (kd wd fi ci mx kn : Nat) (fo ce le kn2 cn : Nat) (V Nb Pl Fo Od Bg : Nat → Nat) (hn : n ≤ 12) (hN : ∀ i, Nb i < 4096) (hV : ∀ j, V j ≤ 4) (hk2 : kn2 = 1) (h5 : ∀ i, i < n → Fo i < n) (sz : Nat) : Met l ySq_arrange (.code ySq_arrange cSq_arrange 4 none :: zT) rm_Seq_arrange51 (zPw G [.ref sq, .int (nI 5)] [(sq, zO 4 [.ref g, .ref sr, .ref pl, .ref na, .ref ba, .int (nI kd), .int (mI wd), .int (nI fi), .int (nI ci), .int (nI mx), .int (nI kn)]), (g, zO 2 [.ref av, .ref an, .int (nI n), .int st]), (av, zI G 12 (fun j => nI (V j))), (an, zI G 12 (fun j => nI (Nb j))), (pl, zI G 12 (fun j => mI (Pl j))), (na, zI G 12 (fun j => nI (Od j))), (ba, zI G 12 (fun j => nI (Bg j))), (sr, zO 3 [.ref g, .ref fo, .ref ce, .ref le, .int (nI cn), .int (nI kn2)]), (fo, zI G 12 (fun j => nI (Fo j)))] sz) (zQ (S := Unit) G (fun u => none) (fun u => [(sq, zO 4 [.ref g, .ref sr, .ref pl, .ref na, .ref ba, .int (nI 5), .int (mI (wdF (bgC Nb n (arC (ctC Nb V Pl Fo n 5) Od n)) n)), .int (nI (flC Nb n (arC (ctC Nb V Pl Fo n 5) Od n) n)), .int (nI (sumF (fun i => cellsF V (bgC Nb n (arC (ctC Nb V Pl Fo n 5) Od n) i) n) n)), .int (nI (mcF V (bgC Nb n (arC (ctC Nb V Pl Fo n 5) Od n)) n n)), .int (nI 1)]), (g, zO 2 [.ref av, .ref an, .int (nI n), .int st]), (av, zI G 12 (fun j => nI (V j))), (an, zI G 12 (fun j => nI (Nb j))), (pl, zI G 12 (fun j => mI (Pl j))), (na, zI G 12 (fun j => nI ((arC (ctC Nb V Pl Fo n 5) Od n) j))), (ba, zI G 12 (fun j => nI ((rowF Bg (bgC Nb n (arC (ctC Nb V Pl Fo n 5) Od n)) n) j))), (sr, zO 3 [.ref g, .ref fo, .ref ce, .ref le, .int (nI cn), .int (nI kn2)]), (fo, zI G 12 (fun j => nI (Fo j)))]) (va_A [(sq, zO 4 [.ref g, .ref sr, .ref pl, .ref na, .ref ba, .int (nI kd), .int (mI wd), .int (nI fi), .int (nI ci), .int (nI mx), .int (nI kn)]), (g, zO 2 [.ref av, .ref an, .int (nI n), .int st]), (av, zI G 12 (fun j => nI (V j))), (an, zI G 12 (fun j => nI (Nb j))), (pl, zI G 12 (fun j => mI (Pl j))), (na, zI G 12 (fun j => nI (Od j))), (ba, zI G 12 (fun j => nI (Bg j))), (sr, zO 3 [.ref g, .ref fo, .ref ce, .ref le, .int (nI cn), .int (nI kn2)]), (fo, zI G 12 (fun j => nI (Fo j)))] sz) (fun u => True)) 0 0 (va_A [(sq, zO 4 [.ref g, .ref sr, .ref pl, .ref na, .ref ba, .int (nI kd), .int (mI wd), .int (nI fi), .int (nI ci), .int (nI mx), .int (nI kn)]), (g, zO 2 [.ref av, .ref an, .int (nI n), .int st]), (av, zI G 12 (fun j => nI (V j))), (an, zI G 12 (fun j => nI (Nb j))), (pl, zI G 12 (fun j => mI (Pl j))), (na, zI G 12 (fun j => nI (Od j))), (ba, zI G 12 (fun j => nI (Bg j))), (sr, zO 3 [.ref g, .ref fo, .ref ce, .ref le, .int (nI cn), .int (nI kn2)]), (fo, zI G 12 (fun j => nI (Fo j)))] sz) := by
  refine z_metWv (by decide) (Nat.le_of_ble_eq_true rfl) (fun p e s m args below meth c ls A Q Sf hnm w hl hret => ?_)
  obtain ⟨H, hH⟩ : ∃ H, H = s.heap := ⟨_, rfl⟩
  obtain ⟨locs, hlo⟩ : ∃ L : List Loc, L = [] := ⟨_, rfl⟩
  rw [← hH, ← hlo] at w
  rw [← hH, ← hlo]
  clear hH hlo
  have Sf : CallFix p m c cSq_arrange 4 s args zT RSq := Sf
  have hx := Sf.1
  have hb := Sf.2.1
  have hown := Sf.2.2.2.1
  have hts := Sf.2.2.2.2
  have hl : lv_has ls 4 [(0, .ref sq), (1, .int (nI 5))] := hl
  refine lv_aload_n hx hb dSq_arrange_0 rfl (lv_at hl 0 rfl) ?_
  refine lv_iload_n hx hb dSq_arrange_1 rfl (lv_at hl 1 rfl) ?_
  refine pf_Sq_57 Sf w 0 rfl rfl rfl (Nat.le_of_ble_eq_true rfl) (ws' := [(sq, zO 4 [.ref g, .ref sr, .ref pl, .ref na, .ref ba, .int (nI 5), .int (mI wd), .int (nI fi), .int (nI ci), .int (nI mx), .int (nI kn)]), (g, zO 2 [.ref av, .ref an, .int (nI n), .int st]), (av, zI G 12 (fun j => nI (V j))), (an, zI G 12 (fun j => nI (Nb j))), (pl, zI G 12 (fun j => mI (Pl j))), (na, zI G 12 (fun j => nI (Od j))), (ba, zI G 12 (fun j => nI (Bg j))), (sr, zO 3 [.ref g, .ref fo, .ref ce, .ref le, .int (nI cn), .int (nI kn2)]), (fo, zI G 12 (fun j => nI (Fo j)))]) rfl dSq_arrange_2 (fun H locs w => ?_)
  refine lv_aload_n hx hb dSq_arrange_5 rfl (lv_at hl 0 rfl) ?_
  refine gf_Sq_57 Sf w.1 0 rfl rfl dSq_arrange_6 ?_
  refine lv_iconst (v := (nI 5)) hx hb dSq_arrange_9 (by decide) ?_
  refine z_icmpne (tgt := 20) hx hb (by decide) (by decide) dSq_arrange_10 (by decide) (fun q => absurd q (by decide)) (fun _ => ?_)
  refine lv_aload_n hx hb dSq_arrange_13 rfl (lv_at hl 0 rfl) ?_
  refine gf_Sq_30 Sf w.1 0 rfl rfl dSq_arrange_14 ?_
  refine z_wV (wr := [(sq, zO 4 [.ref g, .ref sr, .ref pl, .ref na, .ref ba, .int (nI 5), .int (mI wd), .int (nI fi), .int (nI ci), .int (nI mx), .int (nI kn)]), (g, zO 2 [.ref av, .ref an, .int (nI n), .int st]), (av, zI G 12 (fun j => nI (V j))), (an, zI G 12 (fun j => nI (Nb j))), (pl, zI G 12 (fun j => mI (Pl j))), (na, zI G 12 (fun j => nI (Od j))), (ba, zI G 12 (fun j => nI (Bg j))), (fo, zI G 12 (fun j => nI (Fo j)))]) (As := []) (rest := []) Sf (c_Search_find1 l G sr g fo ce le kn2 cn (by first | assumption | omega) H.size) mv_Sq_63 ⟨rfl, rfl⟩ ⟨Nat.le_of_ble_eq_true rfl, Nat.le_of_ble_eq_true rfl⟩ w [7] [0, 1, 2, 3, 4, 5, 6, 8] rfl rfl (by decide) (by decide) (by decide) 7 rfl rfl rfl rfl hl.1 rfl (Nat.le_of_ble_eq_true rfl) dSq_arrange_17 ⟨Nat.le_of_ble_eq_true rfl, Nat.le_of_ble_eq_true rfl⟩ (fun u1 H locs hu1 w => ?_)
  have w := w.eq (ws' := [(sq, zO 4 [.ref g, .ref sr, .ref pl, .ref na, .ref ba, .int (nI 5), .int (mI wd), .int (nI fi), .int (nI ci), .int (nI mx), .int (nI kn)]), (g, zO 2 [.ref av, .ref an, .int (nI n), .int st]), (av, zI G 12 (fun j => nI (V j))), (an, zI G 12 (fun j => nI (Nb j))), (pl, zI G 12 (fun j => mI (Pl j))), (na, zI G 12 (fun j => nI (Od j))), (ba, zI G 12 (fun j => nI (Bg j))), (fo, zI G 12 (fun j => nI (Fo j))), (sr, zO 3 [.ref g, .ref fo, .ref ce, .ref le, .int (nI cn), .int (nI kn2)])]) rfl
  refine W.eq (g2 := F0 m 20 ls []) rfl ?_
  refine lv_iconst (v := (nI 0)) hx hb dSq_arrange_20 (by decide) ?_
  refine lv_istore_n (lv' := [(2, .int (nI 0)), (0, .ref sq), (1, .int (nI 5))]) hx hb dSq_arrange_21 rfl hl (by decide) rfl (fun ls hl => ?_)
  refine lv_iconst (v := (nI 0)) hx hb dSq_arrange_22 (by decide) ?_
  refine lv_istore_n (lv' := [(3, .int (nI 0)), (2, .int (nI 0)), (0, .ref sq), (1, .int (nI 5))]) hx hb dSq_arrange_23 rfl hl (by decide) rfl (fun ls hl => ?_)
  have L24 : ∀ (fu24 : Nat) (gone i : Nat) (F : Nat → Nat), (i ≤ n) → (gone = goF F i) → (F = arC (ctC Nb V Pl Fo n 5) Od i) → (∀ j, j < i → F j < n) → (gone < 4096) → (n - i) < fu24 → ∀ (H : Heap) (locs : List Loc), zw G A s [(sq, zO 4 [.ref g, .ref sr, .ref pl, .ref na, .ref ba, .int (nI 5), .int (mI wd), .int (nI fi), .int (nI ci), .int (nI mx), .int (nI kn)]), (g, zO 2 [.ref av, .ref an, .int (nI n), .int st]), (av, zI G 12 (fun j => nI (V j))), (an, zI G 12 (fun j => nI (Nb j))), (pl, zI G 12 (fun j => mI (Pl j))), (na, zI G 12 (fun j => nI (F j))), (ba, zI G 12 (fun j => nI (Bg j))), (sr, zO 3 [.ref g, .ref fo, .ref ce, .ref le, .int (nI cn), .int (nI kn2)]), (fo, zI G 12 (fun j => nI (Fo j)))] H locs → ∀ (ls : Array Slot), lv_has ls 4 [(3, .int (nI i)), (2, .int (nI gone)), (0, .ref sq), (1, .int (nI 5))] → W p l e rm_Seq_arrange51 s m args below meth c H locs 0 0 Q (F0 m 24 ls []) := by
    intro fu24
    induction fu24 with
    | zero =>
      intro gone i F hi hgo hF hFn hg0 hm24
      exact absurd hm24 (Nat.not_lt_zero _)
    | succ fu24 ih24 =>
      intro gone i F hi hgo hF hFn hg0 hm24 H locs w ls hl
      refine lv_iload_n hx hb dSq_arrange_24 rfl (lv_at hl 0 rfl) ?_
      refine lv_aload_n hx hb dSq_arrange_25 rfl (lv_at hl 2 rfl) ?_
      refine gf_Sq_21 Sf w.1 0 rfl rfl dSq_arrange_26 ?_
      refine gf_Sq_40 Sf w.1 1 rfl rfl dSq_arrange_29 ?_
      refine z_icmpge (tgt := 64) hx hb (by omega) (by omega) dSq_arrange_32 (by decide) (fun c32 => ?_) (fun c32 => ?_)
      · skip
        refine lv_aload_n hx hb dSq_arrange_64 rfl (lv_at hl 2 rfl) ?_
        refine z_wV (wr := [(pl, zI G 12 (fun j => mI (Pl j))), (sr, zO 3 [.ref g, .ref fo, .ref ce, .ref le, .int (nI cn), .int (nI kn2)]), (fo, zI G 12 (fun j => nI (Fo j)))]) (As := []) (rest := []) Sf (c_Seq_takeAllOut l G sq sr pl na ba g av an n st 5 wd fi ci mx kn V Nb F Bg (by first | assumption | omega) (by first | assumption | omega) (by first | assumption | omega) (fun j hj => hFn j (by omega)) H.size) mv_Sq_60 ⟨rfl, rfl⟩ ⟨Nat.le_of_ble_eq_true rfl, Nat.le_of_ble_eq_true rfl⟩ w [0, 1, 2, 3, 5, 6] [4, 7, 8] rfl rfl (by decide) (by decide) (by decide) 0 rfl rfl rfl rfl hl.1 rfl (Nat.le_of_ble_eq_true rfl) dSq_arrange_65 ⟨Nat.le_of_ble_eq_true rfl, Nat.le_of_ble_eq_true rfl⟩ (fun u2 H locs hu2 w => ?_)
        have w := w.eq (ws' := [(pl, zI G 12 (fun j => mI (Pl j))), (sr, zO 3 [.ref g, .ref fo, .ref ce, .ref le, .int (nI cn), .int (nI kn2)]), (fo, zI G 12 (fun j => nI (Fo j))), (sq, zO 4 [.ref g, .ref sr, .ref pl, .ref na, .ref ba, .int (nI 5), .int (mI (wdF (bgC Nb n F) n)), .int (nI (flC Nb n F n)), .int (nI (sumF (fun i => cellsF V (bgC Nb n F i) n) n)), .int (nI (mcF V (bgC Nb n F) n n)), .int (nI 1)]), (g, zO 2 [.ref av, .ref an, .int (nI n), .int st]), (av, zI G 12 (fun j => nI (V j))), (an, zI G 12 (fun j => nI (Nb j))), (na, zI G 12 (fun j => nI (F j))), (ba, zI G 12 (fun j => nI ((rowF Bg (bgC Nb n F) n) j)))]) rfl
        refine W.eq (g2 := F0 m 68 ls []) rfl ?_
        have w := w.perm (ws' := [(sq, zO 4 [.ref g, .ref sr, .ref pl, .ref na, .ref ba, .int (nI 5), .int (mI (wdF (bgC Nb n F) n)), .int (nI (flC Nb n F n)), .int (nI (sumF (fun i => cellsF V (bgC Nb n F i) n) n)), .int (nI (mcF V (bgC Nb n F) n n)), .int (nI 1)]), (g, zO 2 [.ref av, .ref an, .int (nI n), .int st]), (av, zI G 12 (fun j => nI (V j))), (an, zI G 12 (fun j => nI (Nb j))), (pl, zI G 12 (fun j => mI (Pl j))), (na, zI G 12 (fun j => nI (F j))), (ba, zI G 12 (fun j => nI ((rowF Bg (bgC Nb n F) n) j))), (sr, zO 3 [.ref g, .ref fo, .ref ce, .ref le, .int (nI cn), .int (nI kn2)]), (fo, zI G 12 (fun j => nI (Fo j)))]) [3, 4, 5, 6, 0, 7, 8, 1, 2] (by decide) rfl
        exact hret _ _ _ _ () _ w (by rw [hF, show i = n by omega]) (trivial) dSq_arrange_68 rfl
      · skip
        have hct := ctC_lt (Nb := Nb) (V := V) (Pl := Pl) (Fo := Fo) (gone := gone) (kd := 5) (show i < n by omega) (fun q => absurd q (by decide)) (fun _ => h5)
        refine lv_aload_n hx hb dSq_arrange_35 rfl (lv_at hl 2 rfl) ?_
        refine gf_Sq_15 Sf w.1 0 rfl rfl dSq_arrange_36 ?_
        refine lv_iload_n hx hb dSq_arrange_39 rfl (lv_at hl 0 rfl) ?_
        refine lv_aload_n hx hb dSq_arrange_40 rfl (lv_at hl 2 rfl) ?_
        refine lv_iload_n hx hb dSq_arrange_41 rfl (lv_at hl 0 rfl) ?_
        refine lv_iload_n hx hb dSq_arrange_42 rfl (lv_at hl 1 rfl) ?_
        refine z_rV (As := [.int (nI i), .int (nI gone)]) (rest := [.int (nI i), .ref na]) Sf (c_Seq_chosenAt l G sq sr pl na ba g av an n st 5 wd fi ci mx kn fo ce le kn2 cn V Nb Pl Fo i gone (by first | assumption | omega) (by first | assumption | omega) (by first | assumption | omega) (by decide) (by first | assumption | omega) (by first | assumption | omega) (fun q => absurd q (by decide))) mv_Sq_66 ⟨rfl, rfl⟩ ⟨Nat.le_of_ble_eq_true rfl, Nat.le_of_ble_eq_true rfl⟩ w.1 [0, 1, 2, 3, 4, 7, 8] rfl 0 rfl rfl rfl rfl hl.1 rfl (Nat.le_of_ble_eq_true rfl) dSq_arrange_43 ⟨Nat.le_of_ble_eq_true rfl, Nat.le_of_ble_eq_true rfl⟩ ?_
        refine z_iastN hx hb w 5 (k := i) rfl (by omega) (by omega) (ws' := [(sq, zO 4 [.ref g, .ref sr, .ref pl, .ref na, .ref ba, .int (nI 5), .int (mI wd), .int (nI fi), .int (nI ci), .int (nI mx), .int (nI kn)]), (g, zO 2 [.ref av, .ref an, .int (nI n), .int st]), (av, zI G 12 (fun j => nI (V j))), (an, zI G 12 (fun j => nI (Nb j))), (pl, zI G 12 (fun j => mI (Pl j))), (na, zI G 12 (fun j => nI ((va_up F i (ctC Nb V Pl Fo n 5 i gone)) j))), (ba, zI G 12 (fun j => nI (Bg j))), (sr, zO 3 [.ref g, .ref fo, .ref ce, .ref le, .int (nI cn), .int (nI kn2)]), (fo, zI G 12 (fun j => nI (Fo j)))]) rfl dSq_arrange_46 (fun H locs w => ?_)
        refine lv_iload_n hx hb dSq_arrange_47 rfl (lv_at hl 1 rfl) ?_
        refine lv_iconst (v := (nI 1)) hx hb dSq_arrange_48 (by decide) ?_
        refine lv_aload_n hx hb dSq_arrange_49 rfl (lv_at hl 2 rfl) ?_
        refine gf_Sq_15 Sf w.1 0 rfl rfl dSq_arrange_50 ?_
        refine lv_iload_n hx hb dSq_arrange_53 rfl (lv_at hl 0 rfl) ?_
        refine z_iald hx hb w.1 5 (k := i) rfl (by omega) (by omega) dSq_arrange_54 ?_
        rw [va_up_self]
        refine z_shl1 hx hb (by omega) dSq_arrange_55 ?_
        refine z_orN hx hb dSq_arrange_56 ?_
        refine lv_istore_n (lv' := [(2, .int (nI (gone ||| (2 ^ (ctC Nb V Pl Fo n 5 i gone))))), (3, .int (nI i)), (0, .ref sq), (1, .int (nI 5))]) hx hb dSq_arrange_57 rfl hl (by decide) rfl (fun ls hl => ?_)
        refine z_iinc (d := 1) (lv' := [(3, .int (nI (i + 1))), (2, .int (nI (gone ||| (2 ^ (ctC Nb V Pl Fo n 5 i gone))))), (0, .ref sq), (1, .int (nI 5))]) hx hb dSq_arrange_58 hl (k := 1) rfl (by decide) (by decide) rfl (fun ls hl => ?_)
        refine lv_goto (tgt := 24) hx hb dSq_arrange_61 (by decide) ?_
        refine ih24 (gone ||| (2 ^ (ctC Nb V Pl Fo n 5 i gone))) (i + 1) (va_up F i (ctC Nb V Pl Fo n 5 i gone)) ?_ ?_ ?_ ?_ ?_ ?_ _ _ w ls (lv_sub hl [0, 1, 2, 3] rfl)
        · omega
        · simp only [goF]; rw [goF_up i (Nat.le_refl i), va_up_self, ← hgo]
        · simp only [arC]; rw [← hF, ← hgo]
        · exact fun j hj => by
            by_cases q : j = i
            · rw [q, va_up_self]; exact hct
            · rw [va_up_ne _ _ q]; exact hFn j (by omega)
        · exact or_lt hg0 (pw_lt (by omega))
        · omega
  refine L24 ((n - 0) + 1) 0 0 Od ?_ ?_ ?_ ?_ ?_ ?_ _ _ (w.perm [0, 1, 2, 3, 4, 5, 6, 8, 7] (by decide) rfl) ls (lv_sub hl [0, 1, 2, 3] rfl)
  · omega
  · rfl
  · rfl
  · exact fun j hj => absurd hj (Nat.not_lt_zero _)
  · omega
  · exact Nat.lt_succ_self _

def rm_Seq_init : Room := { frames := 2, cells := 7, slots := 8246, locals := 61 }
set_option maxHeartbeats 4000000 in
set_option maxRecDepth 100000 in
theorem c_Seq_init (l : Launch) (G : zG) (sq g : Nat)  (sz : Nat) : Met l ySq_init (.code ySq_init cSq_init 2 none :: zT) rm_Seq_init (zPw G [.ref sq, .ref g] [(sq, zO 4 [.null, .null, .null, .null, .null, .int (nI 0), .int (nI 0), .int (nI 0), .int (nI 0), .int (nI 0), .int (nI 0)])] sz) (zQ (S := Nat × Nat × Nat × Nat × Nat × Nat × Nat) G (fun u => none) (fun u => [(sq, zO 4 [.ref g, .ref u.2.2.2.1, .ref u.1, .ref u.2.1, .ref u.2.2.1, .int (nI 0), .int (mI 1), .int (nI 0), .int (nI 0), .int (nI 0), .int (nI 0)]), (u.1, zI G 12 (fun j => mI ((rowF (fun _ => 1) (fun _ => 0) 12) j))), (u.2.1, zI G 12 (fun j => nI ((fun _ => 0) j))), (u.2.2.1, zI G 12 (fun j => nI ((fun _ => 0) j))), (u.2.2.2.1, zO 3 [.ref g, .ref u.2.2.2.2.1, .ref u.2.2.2.2.2.1, .ref u.2.2.2.2.2.2, .int (nI 0), .int (nI 0)]), (u.2.2.2.2.1, zI G 12 (fun j => nI ((fun _ => 0) j))), (u.2.2.2.2.2.1, zI G 4096 (fun j => nI ((fun _ => 0) j))), (u.2.2.2.2.2.2, zI G 4096 (fun j => mI ((fun _ => 1) j)))]) (va_A [(sq, zO 4 [.null, .null, .null, .null, .null, .int (nI 0), .int (nI 0), .int (nI 0), .int (nI 0), .int (nI 0), .int (nI 0)])] sz) (fun u => True)) 7 8246 (va_A [(sq, zO 4 [.null, .null, .null, .null, .null, .int (nI 0), .int (nI 0), .int (nI 0), .int (nI 0), .int (nI 0), .int (nI 0)])] sz) := by
  refine z_metWv (by decide) (Nat.le_of_ble_eq_true rfl) (fun p e s m args below meth c ls A Q Sf hnm w hl hret => ?_)
  obtain ⟨H, hH⟩ : ∃ H, H = s.heap := ⟨_, rfl⟩
  obtain ⟨locs, hlo⟩ : ∃ L : List Loc, L = [] := ⟨_, rfl⟩
  rw [← hH, ← hlo] at w
  rw [← hH, ← hlo]
  clear hH hlo
  have Sf : CallFix p m c cSq_init 2 s args zT RSq := Sf
  have hx := Sf.1
  have hb := Sf.2.1
  have hown := Sf.2.2.2.1
  have hts := Sf.2.2.2.2
  have hl : lv_has ls 2 [(0, .ref sq), (1, .ref g)] := hl
  refine lv_aload_n hx hb dSq_init_0 rfl (lv_at hl 0 rfl) ?_
  refine W.objInit hx hb hown (hts _ oi_Sq_3) (hts _ oi_inst) (hts _ oi_code) rfl (by rw [Sf.2.2.1]; exact hl.1) rfl dSq_init_1 (Nat.le_of_ble_eq_true rfl) (Nat.le_of_ble_eq_true rfl) ?_
  refine W.eq (g2 := F0 m 4 ls []) rfl ?_
  refine lv_aload_n hx hb dSq_init_4 rfl (lv_at hl 0 rfl) ?_
  refine lv_bipush (v := nI 12) hx hb dSq_init_5 (by decide) ?_
  refine z_newi hx hb hts ka_int w (N := 12) (by omega) (by decide) (by decide) dSq_init_7 (fun q1 H w => ?_)
  have w := w.eq (ws' := [(sq, zO 4 [.null, .null, .null, .null, .null, .int (nI 0), .int (nI 0), .int (nI 0), .int (nI 0), .int (nI 0), .int (nI 0)]), (q1, zI G 12 (fun j => nI ((fun _ => 0) j)))]) rfl
  refine pf_Sq_9 Sf hnm w 0 rfl rfl rfl (Nat.le_of_ble_eq_true rfl) (ws' := [(sq, zO 4 [.null, .null, .ref q1, .null, .null, .int (nI 0), .int (nI 0), .int (nI 0), .int (nI 0), .int (nI 0), .int (nI 0)]), (q1, zI G 12 (fun j => nI ((fun _ => 0) j)))]) rfl dSq_init_9 (fun H locs w => ?_)
  refine lv_aload_n hx hb dSq_init_12 rfl (lv_at hl 0 rfl) ?_
  refine lv_bipush (v := nI 12) hx hb dSq_init_13 (by decide) ?_
  refine z_newi hx hb hts ka_int w (N := 12) (by omega) (by decide) (by decide) dSq_init_15 (fun q2 H w => ?_)
  have w := w.eq (ws' := [(sq, zO 4 [.null, .null, .ref q1, .null, .null, .int (nI 0), .int (nI 0), .int (nI 0), .int (nI 0), .int (nI 0), .int (nI 0)]), (q1, zI G 12 (fun j => nI ((fun _ => 0) j))), (q2, zI G 12 (fun j => nI ((fun _ => 0) j)))]) rfl
  refine pf_Sq_15 Sf hnm w 0 rfl rfl rfl (Nat.le_of_ble_eq_true rfl) (ws' := [(sq, zO 4 [.null, .null, .ref q1, .ref q2, .null, .int (nI 0), .int (nI 0), .int (nI 0), .int (nI 0), .int (nI 0), .int (nI 0)]), (q1, zI G 12 (fun j => nI ((fun _ => 0) j))), (q2, zI G 12 (fun j => nI ((fun _ => 0) j)))]) rfl dSq_init_17 (fun H locs w => ?_)
  refine lv_aload_n hx hb dSq_init_20 rfl (lv_at hl 0 rfl) ?_
  refine lv_bipush (v := nI 12) hx hb dSq_init_21 (by decide) ?_
  refine z_newi hx hb hts ka_int w (N := 12) (by omega) (by decide) (by decide) dSq_init_23 (fun q3 H w => ?_)
  have w := w.eq (ws' := [(sq, zO 4 [.null, .null, .ref q1, .ref q2, .null, .int (nI 0), .int (nI 0), .int (nI 0), .int (nI 0), .int (nI 0), .int (nI 0)]), (q1, zI G 12 (fun j => nI ((fun _ => 0) j))), (q2, zI G 12 (fun j => nI ((fun _ => 0) j))), (q3, zI G 12 (fun j => nI ((fun _ => 0) j)))]) rfl
  refine pf_Sq_18 Sf hnm w 0 rfl rfl rfl (Nat.le_of_ble_eq_true rfl) (ws' := [(sq, zO 4 [.null, .null, .ref q1, .ref q2, .ref q3, .int (nI 0), .int (nI 0), .int (nI 0), .int (nI 0), .int (nI 0), .int (nI 0)]), (q1, zI G 12 (fun j => nI ((fun _ => 0) j))), (q2, zI G 12 (fun j => nI ((fun _ => 0) j))), (q3, zI G 12 (fun j => nI ((fun _ => 0) j)))]) rfl dSq_init_25 (fun H locs w => ?_)
  refine lv_aload_n hx hb dSq_init_28 rfl (lv_at hl 0 rfl) ?_
  refine lv_aload_n hx hb dSq_init_29 rfl (lv_at hl 1 rfl) ?_
  refine pf_Sq_21 Sf hnm w 0 rfl rfl rfl (Nat.le_of_ble_eq_true rfl) (ws' := [(sq, zO 4 [.ref g, .null, .ref q1, .ref q2, .ref q3, .int (nI 0), .int (nI 0), .int (nI 0), .int (nI 0), .int (nI 0), .int (nI 0)]), (q1, zI G 12 (fun j => nI ((fun _ => 0) j))), (q2, zI G 12 (fun j => nI ((fun _ => 0) j))), (q3, zI G 12 (fun j => nI ((fun _ => 0) j)))]) rfl dSq_init_30 (fun H locs w => ?_)
  refine lv_aload_n hx hb dSq_init_33 rfl (lv_at hl 0 rfl) ?_
  refine nw_Sq_25 Sf w (by decide) (by decide) dSq_init_34 (fun q4 H w => ?_)
  have w := w.eq (ws' := [(sq, zO 4 [.ref g, .null, .ref q1, .ref q2, .ref q3, .int (nI 0), .int (nI 0), .int (nI 0), .int (nI 0), .int (nI 0), .int (nI 0)]), (q1, zI G 12 (fun j => nI ((fun _ => 0) j))), (q2, zI G 12 (fun j => nI ((fun _ => 0) j))), (q3, zI G 12 (fun j => nI ((fun _ => 0) j))), (q4, zO 3 [.null, .null, .null, .null, .int (nI 0), .int (nI 0)])]) rfl
  refine lv_dup hx hb dSq_init_37 rfl ?_
  refine lv_aload_n hx hb dSq_init_38 rfl (lv_at hl 1 rfl) ?_
  refine z_wI (wr := [(sq, zO 4 [.ref g, .null, .ref q1, .ref q2, .ref q3, .int (nI 0), .int (nI 0), .int (nI 0), .int (nI 0), .int (nI 0), .int (nI 0)]), (q1, zI G 12 (fun j => nI ((fun _ => 0) j))), (q2, zI G 12 (fun j => nI ((fun _ => 0) j))), (q3, zI G 12 (fun j => nI ((fun _ => 0) j)))]) (As := [.ref g]) (rest := [.ref q4, .ref sq]) Sf (c_Search_init l G q4 g  H.size) mv_Sq_27 ⟨rfl, rfl⟩ ⟨Nat.le_of_ble_eq_true rfl, Nat.le_of_ble_eq_true rfl⟩ w [4] [0, 1, 2, 3] rfl rfl (by decide) (by decide) (by decide) rfl hl.1 rfl (Nat.le_of_ble_eq_true rfl) dSq_init_39 ⟨Nat.le_of_ble_eq_true rfl, Nat.le_of_ble_eq_true rfl⟩ (fun u5 H locs hu5 w => ?_)
  have w := w.eq (ws' := [(sq, zO 4 [.ref g, .null, .ref q1, .ref q2, .ref q3, .int (nI 0), .int (nI 0), .int (nI 0), .int (nI 0), .int (nI 0), .int (nI 0)]), (q1, zI G 12 (fun j => nI ((fun _ => 0) j))), (q2, zI G 12 (fun j => nI ((fun _ => 0) j))), (q3, zI G 12 (fun j => nI ((fun _ => 0) j))), (q4, zO 3 [.ref g, .ref u5.1, .ref u5.2.1, .ref u5.2.2, .int (nI 0), .int (nI 0)]), (u5.1, zI G 12 (fun j => nI ((fun _ => 0) j))), (u5.2.1, zI G 4096 (fun j => nI ((fun _ => 0) j))), (u5.2.2, zI G 4096 (fun j => mI ((fun _ => 1) j)))]) rfl
  refine W.eq (g2 := F0 m 42 ls [.ref q4, .ref sq]) rfl ?_
  refine pf_Sq_30 Sf hnm w 0 rfl rfl rfl (Nat.le_of_ble_eq_true rfl) (ws' := [(sq, zO 4 [.ref g, .ref q4, .ref q1, .ref q2, .ref q3, .int (nI 0), .int (nI 0), .int (nI 0), .int (nI 0), .int (nI 0), .int (nI 0)]), (q1, zI G 12 (fun j => nI ((fun _ => 0) j))), (q2, zI G 12 (fun j => nI ((fun _ => 0) j))), (q3, zI G 12 (fun j => nI ((fun _ => 0) j))), (q4, zO 3 [.ref g, .ref u5.1, .ref u5.2.1, .ref u5.2.2, .int (nI 0), .int (nI 0)]), (u5.1, zI G 12 (fun j => nI ((fun _ => 0) j))), (u5.2.1, zI G 4096 (fun j => nI ((fun _ => 0) j))), (u5.2.2, zI G 4096 (fun j => mI ((fun _ => 1) j)))]) rfl dSq_init_42 (fun H locs w => ?_)
  refine lv_aload_n hx hb dSq_init_45 rfl (lv_at hl 0 rfl) ?_
  refine gf_Sq_9 Sf w.1 0 rfl rfl dSq_init_46 ?_
  refine lv_iconst (v := (mI 0)) hx hb dSq_init_49 (by decide) ?_
  have w := w.eq (ws' := [(sq, zO 4 [.ref g, .ref q4, .ref q1, .ref q2, .ref q3, .int (nI 0), .int (nI 0), .int (nI 0), .int (nI 0), .int (nI 0), .int (nI 0)]), (q1, zI G 12 (fun j => mI ((fun _ => 1) j))), (q2, zI G 12 (fun j => nI ((fun _ => 0) j))), (q3, zI G 12 (fun j => nI ((fun _ => 0) j))), (q4, zO 3 [.ref g, .ref u5.1, .ref u5.2.1, .ref u5.2.2, .int (nI 0), .int (nI 0)]), (u5.1, zI G 12 (fun j => nI ((fun _ => 0) j))), (u5.2.1, zI G 4096 (fun j => nI ((fun _ => 0) j))), (u5.2.2, zI G 4096 (fun j => mI ((fun _ => 1) j)))]) (by rw [mz1])
  refine z_wS (wr := [(sq, zO 4 [.ref g, .ref q4, .ref q1, .ref q2, .ref q3, .int (nI 0), .int (nI 0), .int (nI 0), .int (nI 0), .int (nI 0), .int (nI 0)]), (q2, zI G 12 (fun j => nI ((fun _ => 0) j))), (q3, zI G 12 (fun j => nI ((fun _ => 0) j))), (q4, zO 3 [.ref g, .ref u5.1, .ref u5.2.1, .ref u5.2.2, .int (nI 0), .int (nI 0)]), (u5.1, zI G 12 (fun j => nI ((fun _ => 0) j))), (u5.2.1, zI G 4096 (fun j => nI ((fun _ => 0) j))), (u5.2.2, zI G 4096 (fun j => mI ((fun _ => 1) j)))]) (As := [.ref q1, .int (mI 0)]) (rest := []) Sf (c_fillM l G q1 12 (fun _ => 1) 0 (by first | assumption | omega) H.size) mv_Sq_34 ⟨rfl, rfl⟩ ⟨Nat.le_of_ble_eq_true rfl, Nat.le_of_ble_eq_true rfl⟩ w [1] [0, 2, 3, 4, 5, 6, 7] rfl rfl (by decide) (by decide) (by decide) rfl hl.1 rfl (Nat.le_of_ble_eq_true rfl) dSq_init_50 ⟨Nat.le_of_ble_eq_true rfl, Nat.le_of_ble_eq_true rfl⟩ (fun u6 H locs hu6 w => ?_)
  have w := w.eq (ws' := [(sq, zO 4 [.ref g, .ref q4, .ref q1, .ref q2, .ref q3, .int (nI 0), .int (nI 0), .int (nI 0), .int (nI 0), .int (nI 0), .int (nI 0)]), (q2, zI G 12 (fun j => nI ((fun _ => 0) j))), (q3, zI G 12 (fun j => nI ((fun _ => 0) j))), (q4, zO 3 [.ref g, .ref u5.1, .ref u5.2.1, .ref u5.2.2, .int (nI 0), .int (nI 0)]), (u5.1, zI G 12 (fun j => nI ((fun _ => 0) j))), (u5.2.1, zI G 4096 (fun j => nI ((fun _ => 0) j))), (u5.2.2, zI G 4096 (fun j => mI ((fun _ => 1) j))), (q1, zI G 12 (fun j => mI ((rowF (fun _ => 1) (fun _ => 0) 12) j)))]) rfl
  refine W.eq (g2 := F0 m 53 ls []) rfl ?_
  have w := w.eq (ws' := [(sq, zO 4 [.ref g, .ref q4, .ref q1, .ref q2, .ref q3, .int (nI 0), .int (mI 1), .int (nI 0), .int (nI 0), .int (nI 0), .int (nI 0)]), (q2, zI G 12 (fun j => nI ((fun _ => 0) j))), (q3, zI G 12 (fun j => nI ((fun _ => 0) j))), (q4, zO 3 [.ref g, .ref u5.1, .ref u5.2.1, .ref u5.2.2, .int (nI 0), .int (nI 0)]), (u5.1, zI G 12 (fun j => nI ((fun _ => 0) j))), (u5.2.1, zI G 4096 (fun j => nI ((fun _ => 0) j))), (u5.2.2, zI G 4096 (fun j => mI ((fun _ => 1) j))), (q1, zI G 12 (fun j => mI ((rowF (fun _ => 1) (fun _ => 0) 12) j)))]) (by rw [show mI 1 = nI 0 by decide])
  have w := w.perm (ws' := [(sq, zO 4 [.ref g, .ref q4, .ref q1, .ref q2, .ref q3, .int (nI 0), .int (mI 1), .int (nI 0), .int (nI 0), .int (nI 0), .int (nI 0)]), (q1, zI G 12 (fun j => mI ((rowF (fun _ => 1) (fun _ => 0) 12) j))), (q2, zI G 12 (fun j => nI ((fun _ => 0) j))), (q3, zI G 12 (fun j => nI ((fun _ => 0) j))), (q4, zO 3 [.ref g, .ref u5.1, .ref u5.2.1, .ref u5.2.2, .int (nI 0), .int (nI 0)]), (u5.1, zI G 12 (fun j => nI ((fun _ => 0) j))), (u5.2.1, zI G 4096 (fun j => nI ((fun _ => 0) j))), (u5.2.2, zI G 4096 (fun j => mI ((fun _ => 1) j)))]) [0, 7, 1, 2, 3, 4, 5, 6] (by decide) rfl
  exact hret _ _ _ _ (q1, q2, q3, q4, u5.1, u5.2.1, u5.2.2) _ w (rfl) (trivial) dSq_init_53 rfl
