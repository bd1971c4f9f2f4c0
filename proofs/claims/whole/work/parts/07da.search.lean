def rm_Search_countCells : Room := { frames := 1, cells := 0, slots := 0, locals := 23 }
set_option maxHeartbeats 4000000 in
set_option maxRecDepth 100000 in
theorem c_Search_countCells (l : Launch) (G : zG) (s0 fo ce le : Nat) (g av an : Nat) (n : Nat) (st : Int32) (kn cn : Nat) (V Lc : Nat → Nat) (hn : n ≤ 12) (hcn : cn ≤ 2 ^ n) (hce : ∀ j, j < cn → Lc j = cellsF V j n) (sz : Nat) : Met l ySe_countCells (.code ySe_countCells cSe_countCells 2 none :: zT) rm_Search_countCells (zPw G [.ref s0] [(s0, zO 3 [.ref g, .ref fo, .ref ce, .ref le, .int (nI cn), .int (nI kn)]), (g, zO 2 [.ref av, .ref an, .int (nI n), .int st]), (av, zI G 12 (fun j => nI (V j))), (ce, zI G 4096 (fun j => nI (Lc j)))] sz) (zQ (S := Unit) G (fun u => none) (fun u => [(s0, zO 3 [.ref g, .ref fo, .ref ce, .ref le, .int (nI (2 ^ n)), .int (nI kn)]), (g, zO 2 [.ref av, .ref an, .int (nI n), .int st]), (av, zI G 12 (fun j => nI (V j))), (ce, zI G 4096 (fun j => nI ((rowF Lc (fun j => cellsF V j n) (2 ^ n)) j)))]) (va_A [(s0, zO 3 [.ref g, .ref fo, .ref ce, .ref le, .int (nI cn), .int (nI kn)]), (g, zO 2 [.ref av, .ref an, .int (nI n), .int st]), (av, zI G 12 (fun j => nI (V j))), (ce, zI G 4096 (fun j => nI (Lc j)))] sz) (fun u => True)) 0 0 (va_A [(s0, zO 3 [.ref g, .ref fo, .ref ce, .ref le, .int (nI cn), .int (nI kn)]), (g, zO 2 [.ref av, .ref an, .int (nI n), .int st]), (av, zI G 12 (fun j => nI (V j))), (ce, zI G 4096 (fun j => nI (Lc j)))] sz) := by
  refine z_metWv (by decide) (Nat.le_of_ble_eq_true rfl) (fun p e s m args below meth c ls A Q Sf hnm w hl hret => ?_)
  obtain ⟨H, hH⟩ : ∃ H, H = s.heap := ⟨_, rfl⟩
  obtain ⟨locs, hlo⟩ : ∃ L : List Loc, L = [] := ⟨_, rfl⟩
  rw [← hH, ← hlo] at w
  rw [← hH, ← hlo]
  clear hH hlo
  have Sf : CallFix p m c cSe_countCells 2 s args zT RSe := Sf
  have hx := Sf.1
  have hb := Sf.2.1
  have hown := Sf.2.2.2.1
  have hts := Sf.2.2.2.2
  have hl : lv_has ls 2 [(0, .ref s0)] := hl
  have h2n : 1 ≤ 2 ^ n := Nat.one_le_two_pow
  have h2m : 2 ^ n ≤ 4096 := Nat.pow_le_pow_right (by decide) hn
  refine lv_aload_n hx hb dSe_countCells_0 rfl (lv_at hl 0 rfl) ?_
  refine gf_Se_21 Sf w.1 0 rfl rfl dSe_countCells_1 ?_
  refine z_rV (As := []) (rest := []) Sf (c_Graph_everyName l G g av an n st (by first | assumption | omega)) mv_Se_43 ⟨rfl, rfl⟩ ⟨Nat.le_of_ble_eq_true rfl, Nat.le_of_ble_eq_true rfl⟩ w.1 [1] rfl 1 rfl rfl rfl rfl hl.1 rfl (Nat.le_of_ble_eq_true rfl) dSe_countCells_4 ⟨Nat.le_of_ble_eq_true rfl, Nat.le_of_ble_eq_true rfl⟩ ?_
  refine lv_iconst (v := (nI 1)) hx hb dSe_countCells_7 (by decide) ?_
  refine z_addN hx hb dSe_countCells_8 ?_
  rw [show 2 ^ n - 1 + 1 = 2 ^ n by omega]
  refine lv_istore_n (lv' := [(1, .int (nI (2 ^ n))), (0, .ref s0)]) hx hb dSe_countCells_9 rfl hl (by decide) rfl (fun ls hl => ?_)
  have L10 : ∀ (fu10 : Nat) (i : Nat) (F : Nat → Nat), (i ≤ 2 ^ n) → (F = rowF Lc (fun j => cellsF V j n) i) → (2 ^ n - i) < fu10 → ∀ (H : Heap) (locs : List Loc), zw G A s [(s0, zO 3 [.ref g, .ref fo, .ref ce, .ref le, .int (nI i), .int (nI kn)]), (g, zO 2 [.ref av, .ref an, .int (nI n), .int st]), (av, zI G 12 (fun j => nI (V j))), (ce, zI G 4096 (fun j => nI (F j)))] H locs → ∀ (ls : Array Slot), lv_has ls 2 [(1, .int (nI (2 ^ n))), (0, .ref s0)] → W p l e rm_Search_countCells s m args below meth c H locs 0 0 Q (F0 m 10 ls []) := by
    intro fu10
    induction fu10 with
    | zero =>
      intro i F hi hF hm10
      exact absurd hm10 (Nat.not_lt_zero _)
    | succ fu10 ih10 =>
      intro i F hi hF hm10 H locs w ls hl
      refine lv_aload_n hx hb dSe_countCells_10 rfl (lv_at hl 1 rfl) ?_
      refine gf_Se_48 Sf w.1 0 rfl rfl dSe_countCells_11 ?_
      refine lv_iload_n hx hb dSe_countCells_14 rfl (lv_at hl 0 rfl) ?_
      refine z_icmpge (tgt := 51) hx hb (by omega) (by omega) dSe_countCells_15 (by decide) (fun c15 => ?_) (fun c15 => ?_)
      · skip
        exact hret _ _ _ _ () _ w (by rw [hF, show i = 2 ^ n by omega]) (trivial) dSe_countCells_51 rfl
      · skip
        refine lv_aload_n hx hb dSe_countCells_18 rfl (lv_at hl 1 rfl) ?_
        refine gf_Se_15 Sf w.1 0 rfl rfl dSe_countCells_19 ?_
        refine lv_aload_n hx hb dSe_countCells_22 rfl (lv_at hl 1 rfl) ?_
        refine gf_Se_48 Sf w.1 0 rfl rfl dSe_countCells_23 ?_
        refine lv_aload_n hx hb dSe_countCells_26 rfl (lv_at hl 1 rfl) ?_
        refine gf_Se_21 Sf w.1 0 rfl rfl dSe_countCells_27 ?_
        refine lv_aload_n hx hb dSe_countCells_30 rfl (lv_at hl 1 rfl) ?_
        refine gf_Se_48 Sf w.1 0 rfl rfl dSe_countCells_31 ?_
        refine z_rV (As := [.int (nI i)]) (rest := [.int (nI i), .ref ce]) Sf (c_Graph_cellsOf l G g av an n st V i (by first | assumption | omega) (by first | assumption | omega)) mv_Se_52 ⟨rfl, rfl⟩ ⟨Nat.le_of_ble_eq_true rfl, Nat.le_of_ble_eq_true rfl⟩ w.1 [1, 2] rfl 1 rfl rfl rfl rfl hl.1 rfl (Nat.le_of_ble_eq_true rfl) dSe_countCells_34 ⟨Nat.le_of_ble_eq_true rfl, Nat.le_of_ble_eq_true rfl⟩ ?_
        refine z_iastN hx hb w 3 (k := i) rfl (by omega) (by omega) (ws' := [(s0, zO 3 [.ref g, .ref fo, .ref ce, .ref le, .int (nI i), .int (nI kn)]), (g, zO 2 [.ref av, .ref an, .int (nI n), .int st]), (av, zI G 12 (fun j => nI (V j))), (ce, zI G 4096 (fun j => nI ((va_up F i (cellsF V i n)) j)))]) rfl dSe_countCells_37 (fun H locs w => ?_)
        refine lv_aload_n hx hb dSe_countCells_38 rfl (lv_at hl 1 rfl) ?_
        refine lv_dup hx hb dSe_countCells_39 rfl ?_
        refine gf_Se_48 Sf w.1 0 rfl rfl dSe_countCells_40 ?_
        refine lv_iconst (v := (nI 1)) hx hb dSe_countCells_43 (by decide) ?_
        refine z_addN hx hb dSe_countCells_44 ?_
        refine pf_Se_48 Sf w 0 rfl rfl rfl (Nat.le_of_ble_eq_true rfl) (ws' := [(s0, zO 3 [.ref g, .ref fo, .ref ce, .ref le, .int (nI (i + 1)), .int (nI kn)]), (g, zO 2 [.ref av, .ref an, .int (nI n), .int st]), (av, zI G 12 (fun j => nI (V j))), (ce, zI G 4096 (fun j => nI ((va_up F i (cellsF V i n)) j)))]) rfl dSe_countCells_45 (fun H locs w => ?_)
        refine lv_goto (tgt := 10) hx hb dSe_countCells_48 (by decide) ?_
        refine ih10 (i + 1) (va_up F i (cellsF V i n)) ?_ ?_ ?_ _ _ w ls (lv_sub hl [0, 1] rfl)
        · omega
        · rw [hF]; exact rowF_s _ (fun j => cellsF V j n) i
        · omega
  refine L10 ((2 ^ n - cn) + 1) cn Lc ?_ ?_ ?_ _ _ w ls (lv_sub hl [0, 1] rfl)
  · omega
  · exact (rowF_same hce).symm
  · exact Nat.lt_succ_self _

def rm_Search_find0 : Room := { frames := 5, cells := 0, slots := 0, locals := 153 }
set_option maxHeartbeats 4000000 in
set_option maxRecDepth 100000 in
theorem c_Search_find0 (l : Launch) (G : zG) (s0 fo ce le : Nat) (g av an : Nat) (n : Nat) (st : Int32) (kn cn : Nat) (V Nb Lc Le Fo : Nat → Nat) (hn : n ≤ 12) (hN : ∀ i, Nb i < 4096) (hV : ∀ j, V j ≤ 4) (hk0 : kn = 0) (hcn : cn ≤ 2 ^ n) (hce : ∀ j, j < cn → Lc j = cellsF V j n) (hLe : ∀ i, Le i ≤ 268435457) (hLc : ∀ i, Lc i ≤ 16777216) (hbn : ∀ a o, a < n → o < 2 ^ n → bagF Nb n a o < 2 ^ n) (sz : Nat) : Met l ySe_find (.code ySe_find cSe_find 2 none :: zT) rm_Search_find0 (zPw G [.ref s0] [(s0, zO 3 [.ref g, .ref fo, .ref ce, .ref le, .int (nI cn), .int (nI kn)]), (g, zO 2 [.ref av, .ref an, .int (nI n), .int st]), (av, zI G 12 (fun j => nI (V j))), (an, zI G 12 (fun j => nI (Nb j))), (ce, zI G 4096 (fun j => nI (Lc j))), (le, zI G 4096 (fun j => mI (Le j))), (fo, zI G 12 (fun j => nI (Fo j)))] sz) (zQ (S := Unit) G (fun u => none) (fun u => [(s0, zO 3 [.ref g, .ref fo, .ref ce, .ref le, .int (nI (2 ^ n)), .int (nI 1)]), (g, zO 2 [.ref av, .ref an, .int (nI n), .int st]), (av, zI G 12 (fun j => nI (V j))), (an, zI G 12 (fun j => nI (Nb j))), (ce, zI G 4096 (fun j => nI ((clR V Lc n) j))), (le, zI G 4096 (fun j => mI ((ccR Nb (clR V Lc n) (lwR Nb Le n (2 ^ n - 1)) n (lwR Nb Le n (2 ^ n - 1) 0) (2 ^ n - 1)) j))), (fo, zI G 12 (fun j => nI ((fdR V Nb Lc Le Fo n) j)))]) (va_A [(s0, zO 3 [.ref g, .ref fo, .ref ce, .ref le, .int (nI cn), .int (nI kn)]), (g, zO 2 [.ref av, .ref an, .int (nI n), .int st]), (av, zI G 12 (fun j => nI (V j))), (an, zI G 12 (fun j => nI (Nb j))), (ce, zI G 4096 (fun j => nI (Lc j))), (le, zI G 4096 (fun j => mI (Le j))), (fo, zI G 12 (fun j => nI (Fo j)))] sz) (fun u => True)) 0 0 (va_A [(s0, zO 3 [.ref g, .ref fo, .ref ce, .ref le, .int (nI cn), .int (nI kn)]), (g, zO 2 [.ref av, .ref an, .int (nI n), .int st]), (av, zI G 12 (fun j => nI (V j))), (an, zI G 12 (fun j => nI (Nb j))), (ce, zI G 4096 (fun j => nI (Lc j))), (le, zI G 4096 (fun j => mI (Le j))), (fo, zI G 12 (fun j => nI (Fo j)))] sz) := by
  refine z_metWv (by decide) (Nat.le_of_ble_eq_true rfl) (fun p e s m args below meth c ls A Q Sf hnm w hl hret => ?_)
  obtain ⟨H, hH⟩ : ∃ H, H = s.heap := ⟨_, rfl⟩
  obtain ⟨locs, hlo⟩ : ∃ L : List Loc, L = [] := ⟨_, rfl⟩
  rw [← hH, ← hlo] at w
  rw [← hH, ← hlo]
  clear hH hlo
  have Sf : CallFix p m c cSe_find 2 s args zT RSe := Sf
  have hx := Sf.1
  have hb := Sf.2.1
  have hown := Sf.2.2.2.1
  have hts := Sf.2.2.2.2
  have hl : lv_has ls 2 [(0, .ref s0)] := hl
  have h2n : 1 ≤ 2 ^ n := Nat.one_le_two_pow
  have h2m : 2 ^ n ≤ 4096 := Nat.pow_le_pow_right (by decide) hn
  have hLc2 := clR_le (n := n) hn hV hLc
  have hLe1 := lwR_le (L := Nb) (n := n) hLe (2 ^ n - 1)
  have hLe2 := ccR_le (L := Nb) (Lc := clR V Lc n) (n := n) (wd := lwR Nb Le n (2 ^ n - 1) 0) hLe1 (2 ^ n - 1)
  have hw0 := hLe1 0
  refine lv_aload_n hx hb dSe_find_0 rfl (lv_at hl 0 rfl) ?_
  refine gf_Se_25 Sf w.1 0 rfl rfl dSe_find_1 ?_
  refine z_ifneN (tgt := 31) hx hb (by omega) dSe_find_4 (by decide) (fun c4 => ?_) (fun c4 => ?_)
  · skip
    exact absurd hk0 c4
  · skip
    refine lv_aload_n hx hb dSe_find_7 rfl (lv_at hl 0 rfl) ?_
    refine z_wV (wr := [(an, zI G 12 (fun j => nI (Nb j))), (le, zI G 4096 (fun j => mI (Le j))), (fo, zI G 12 (fun j => nI (Fo j)))]) (As := []) (rest := []) Sf (c_Search_countCells l G s0 fo ce le g av an n st kn cn V Lc (by first | assumption | omega) (by first | assumption | omega) (by first | assumption | omega) H.size) mv_Se_29 ⟨rfl, rfl⟩ ⟨Nat.le_of_ble_eq_true rfl, Nat.le_of_ble_eq_true rfl⟩ w [0, 1, 2, 4] [3, 5, 6] rfl rfl (by decide) (by decide) (by decide) 0 rfl rfl rfl rfl hl.1 rfl (Nat.le_of_ble_eq_true rfl) dSe_find_8 ⟨Nat.le_of_ble_eq_true rfl, Nat.le_of_ble_eq_true rfl⟩ (fun u1 H locs hu1 w => ?_)
    have w := w.eq (ws' := [(an, zI G 12 (fun j => nI (Nb j))), (le, zI G 4096 (fun j => mI (Le j))), (fo, zI G 12 (fun j => nI (Fo j))), (s0, zO 3 [.ref g, .ref fo, .ref ce, .ref le, .int (nI (2 ^ n)), .int (nI kn)]), (g, zO 2 [.ref av, .ref an, .int (nI n), .int st]), (av, zI G 12 (fun j => nI (V j))), (ce, zI G 4096 (fun j => nI ((rowF Lc (fun j => cellsF V j n) (2 ^ n)) j)))]) rfl
    refine W.eq (g2 := F0 m 11 ls []) rfl ?_
    refine lv_aload_n hx hb dSe_find_11 rfl (lv_at hl 0 rfl) ?_
    refine z_wV (wr := [(fo, zI G 12 (fun j => nI (Fo j))), (av, zI G 12 (fun j => nI (V j))), (ce, zI G 4096 (fun j => nI ((rowF Lc (fun j => cellsF V j n) (2 ^ n)) j)))]) (As := []) (rest := []) Sf (c_Search_leastWidth l G s0 fo ce le g av an n st kn (2 ^ n) Nb Le (by first | assumption | omega) (by first | assumption | omega) (by first | assumption | omega) H.size) mv_Se_32 ⟨rfl, rfl⟩ ⟨Nat.le_of_ble_eq_true rfl, Nat.le_of_ble_eq_true rfl⟩ w [3, 4, 0, 1] [2, 5, 6] rfl rfl (by decide) (by decide) (by decide) 3 rfl rfl rfl rfl hl.1 rfl (Nat.le_of_ble_eq_true rfl) dSe_find_12 ⟨Nat.le_of_ble_eq_true rfl, Nat.le_of_ble_eq_true rfl⟩ (fun u2 H locs hu2 w => ?_)
    have w := w.eq (ws' := [(fo, zI G 12 (fun j => nI (Fo j))), (av, zI G 12 (fun j => nI (V j))), (ce, zI G 4096 (fun j => nI ((rowF Lc (fun j => cellsF V j n) (2 ^ n)) j))), (s0, zO 3 [.ref g, .ref fo, .ref ce, .ref le, .int (nI (2 ^ n)), .int (nI kn)]), (g, zO 2 [.ref av, .ref an, .int (nI n), .int st]), (an, zI G 12 (fun j => nI (Nb j))), (le, zI G 4096 (fun j => mI ((lwR Nb Le n (2 ^ n - 1)) j)))]) rfl
    refine W.eq (g2 := F0 m 15 ls [.int (mI (lwR Nb Le n (2 ^ n - 1) 0))]) rfl ?_
    refine lv_istore_n (lv' := [(1, .int (mI (lwR Nb Le n (2 ^ n - 1) 0))), (0, .ref s0)]) hx hb dSe_find_15 rfl hl (by decide) rfl (fun ls hl => ?_)
    refine lv_aload_n hx hb dSe_find_16 rfl (lv_at hl 1 rfl) ?_
    refine lv_iload_n hx hb dSe_find_17 rfl (lv_at hl 0 rfl) ?_
    refine z_wV (wr := [(fo, zI G 12 (fun j => nI (Fo j))), (av, zI G 12 (fun j => nI (V j)))]) (As := [.int (mI (lwR Nb Le n (2 ^ n - 1) 0))]) (rest := []) Sf (c_Search_countLeastCells l G s0 fo ce le g av an n st kn (2 ^ n) Nb (rowF Lc (fun j => cellsF V j n) (2 ^ n)) (lwR Nb Le n (2 ^ n - 1)) (lwR Nb Le n (2 ^ n - 1) 0) (by first | assumption | omega) (by first | assumption | omega) hLe1 hLc2 hw0 (by first | assumption | omega) H.size) mv_Se_36 ⟨rfl, rfl⟩ ⟨Nat.le_of_ble_eq_true rfl, Nat.le_of_ble_eq_true rfl⟩ w [3, 4, 5, 2, 6] [0, 1] rfl rfl (by decide) (by decide) (by decide) 3 rfl rfl rfl rfl hl.1 rfl (Nat.le_of_ble_eq_true rfl) dSe_find_18 ⟨Nat.le_of_ble_eq_true rfl, Nat.le_of_ble_eq_true rfl⟩ (fun u3 H locs hu3 w => ?_)
    have w := w.eq (ws' := [(fo, zI G 12 (fun j => nI (Fo j))), (av, zI G 12 (fun j => nI (V j))), (s0, zO 3 [.ref g, .ref fo, .ref ce, .ref le, .int (nI (2 ^ n)), .int (nI kn)]), (g, zO 2 [.ref av, .ref an, .int (nI n), .int st]), (an, zI G 12 (fun j => nI (Nb j))), (ce, zI G 4096 (fun j => nI ((rowF Lc (fun j => cellsF V j n) (2 ^ n)) j))), (le, zI G 4096 (fun j => mI ((ccR Nb (rowF Lc (fun j => cellsF V j n) (2 ^ n)) (lwR Nb Le n (2 ^ n - 1)) n (lwR Nb Le n (2 ^ n - 1) 0) (2 ^ n - 1)) j)))]) rfl
    refine W.eq (g2 := F0 m 21 ls []) rfl ?_
    refine lv_aload_n hx hb dSe_find_21 rfl (lv_at hl 1 rfl) ?_
    refine lv_iload_n hx hb dSe_find_22 rfl (lv_at hl 0 rfl) ?_
    refine z_wV (wr := [(av, zI G 12 (fun j => nI (V j)))]) (As := [.int (mI (lwR Nb Le n (2 ^ n - 1) 0))]) (rest := []) Sf (c_Search_follow l G s0 fo ce le g av an n st kn (2 ^ n) Nb (rowF Lc (fun j => cellsF V j n) (2 ^ n)) (ccR Nb (rowF Lc (fun j => cellsF V j n) (2 ^ n)) (lwR Nb Le n (2 ^ n - 1)) n (lwR Nb Le n (2 ^ n - 1) 0) (2 ^ n - 1)) Fo (lwR Nb Le n (2 ^ n - 1) 0) (by first | assumption | omega) (by first | assumption | omega) hLe2 hLc2 hw0 (by first | assumption | omega) H.size) mv_Se_40 ⟨rfl, rfl⟩ ⟨Nat.le_of_ble_eq_true rfl, Nat.le_of_ble_eq_true rfl⟩ w [2, 3, 4, 5, 6, 0] [1] rfl rfl (by decide) (by decide) (by decide) 2 rfl rfl rfl rfl hl.1 rfl (Nat.le_of_ble_eq_true rfl) dSe_find_23 ⟨Nat.le_of_ble_eq_true rfl, Nat.le_of_ble_eq_true rfl⟩ (fun u4 H locs hu4 w => ?_)
    have w := w.eq (ws' := [(av, zI G 12 (fun j => nI (V j))), (s0, zO 3 [.ref g, .ref fo, .ref ce, .ref le, .int (nI (2 ^ n)), .int (nI kn)]), (g, zO 2 [.ref av, .ref an, .int (nI n), .int st]), (an, zI G 12 (fun j => nI (Nb j))), (ce, zI G 4096 (fun j => nI ((rowF Lc (fun j => cellsF V j n) (2 ^ n)) j))), (le, zI G 4096 (fun j => mI ((ccR Nb (rowF Lc (fun j => cellsF V j n) (2 ^ n)) (lwR Nb Le n (2 ^ n - 1)) n (lwR Nb Le n (2 ^ n - 1) 0) (2 ^ n - 1)) j))), (fo, zI G 12 (fun j => nI (((fwC Nb (rowF Lc (fun j => cellsF V j n) (2 ^ n)) (ccR Nb (rowF Lc (fun j => cellsF V j n) (2 ^ n)) (lwR Nb Le n (2 ^ n - 1)) n (lwR Nb Le n (2 ^ n - 1) 0) (2 ^ n - 1)) Fo n (lwR Nb Le n (2 ^ n - 1) 0) n).2) j)))]) rfl
    refine W.eq (g2 := F0 m 26 ls []) rfl ?_
    refine lv_aload_n hx hb dSe_find_26 rfl (lv_at hl 1 rfl) ?_
    refine lv_iconst (v := (nI 1)) hx hb dSe_find_27 (by decide) ?_
    refine pf_Se_25 Sf w 1 rfl rfl rfl (Nat.le_of_ble_eq_true rfl) (ws' := [(av, zI G 12 (fun j => nI (V j))), (s0, zO 3 [.ref g, .ref fo, .ref ce, .ref le, .int (nI (2 ^ n)), .int (nI 1)]), (g, zO 2 [.ref av, .ref an, .int (nI n), .int st]), (an, zI G 12 (fun j => nI (Nb j))), (ce, zI G 4096 (fun j => nI ((rowF Lc (fun j => cellsF V j n) (2 ^ n)) j))), (le, zI G 4096 (fun j => mI ((ccR Nb (rowF Lc (fun j => cellsF V j n) (2 ^ n)) (lwR Nb Le n (2 ^ n - 1)) n (lwR Nb Le n (2 ^ n - 1) 0) (2 ^ n - 1)) j))), (fo, zI G 12 (fun j => nI (((fwC Nb (rowF Lc (fun j => cellsF V j n) (2 ^ n)) (ccR Nb (rowF Lc (fun j => cellsF V j n) (2 ^ n)) (lwR Nb Le n (2 ^ n - 1)) n (lwR Nb Le n (2 ^ n - 1) 0) (2 ^ n - 1)) Fo n (lwR Nb Le n (2 ^ n - 1) 0) n).2) j)))]) rfl dSe_find_28 (fun H locs w => ?_)
    have w := w.perm (ws' := [(s0, zO 3 [.ref g, .ref fo, .ref ce, .ref le, .int (nI (2 ^ n)), .int (nI 1)]), (g, zO 2 [.ref av, .ref an, .int (nI n), .int st]), (av, zI G 12 (fun j => nI (V j))), (an, zI G 12 (fun j => nI (Nb j))), (ce, zI G 4096 (fun j => nI ((rowF Lc (fun j => cellsF V j n) (2 ^ n)) j))), (le, zI G 4096 (fun j => mI ((ccR Nb (rowF Lc (fun j => cellsF V j n) (2 ^ n)) (lwR Nb Le n (2 ^ n - 1)) n (lwR Nb Le n (2 ^ n - 1) 0) (2 ^ n - 1)) j))), (fo, zI G 12 (fun j => nI (((fwC Nb (rowF Lc (fun j => cellsF V j n) (2 ^ n)) (ccR Nb (rowF Lc (fun j => cellsF V j n) (2 ^ n)) (lwR Nb Le n (2 ^ n - 1)) n (lwR Nb Le n (2 ^ n - 1) 0) (2 ^ n - 1)) Fo n (lwR Nb Le n (2 ^ n - 1) 0) n).2) j)))]) [1, 2, 0, 3, 4, 5, 6] (by decide) rfl
    exact hret _ _ _ _ () _ w (rfl) (trivial) dSe_find_31 rfl

def rm_Search_find1 : Room := { frames := 0, cells := 0, slots := 0, locals := 0 }
set_option maxHeartbeats 4000000 in
set_option maxRecDepth 100000 in
theorem c_Search_find1 (l : Launch) (G : zG) (s0 g fo ce le kn cn : Nat) (hk0 : kn = 1) (sz : Nat) : Met l ySe_find (.code ySe_find cSe_find 2 none :: zT) rm_Search_find1 (zPw G [.ref s0] [(s0, zO 3 [.ref g, .ref fo, .ref ce, .ref le, .int (nI cn), .int (nI kn)])] sz) (zQ (S := Unit) G (fun u => none) (fun u => [(s0, zO 3 [.ref g, .ref fo, .ref ce, .ref le, .int (nI cn), .int (nI kn)])]) (va_A [(s0, zO 3 [.ref g, .ref fo, .ref ce, .ref le, .int (nI cn), .int (nI kn)])] sz) (fun u => True)) 0 0 (va_A [(s0, zO 3 [.ref g, .ref fo, .ref ce, .ref le, .int (nI cn), .int (nI kn)])] sz) := by
  refine z_metWv (by decide) (Nat.le_of_ble_eq_true rfl) (fun p e s m args below meth c ls A Q Sf hnm w hl hret => ?_)
  obtain ⟨H, hH⟩ : ∃ H, H = s.heap := ⟨_, rfl⟩
  obtain ⟨locs, hlo⟩ : ∃ L : List Loc, L = [] := ⟨_, rfl⟩
  rw [← hH, ← hlo] at w
  rw [← hH, ← hlo]
  clear hH hlo
  have Sf : CallFix p m c cSe_find 2 s args zT RSe := Sf
  have hx := Sf.1
  have hb := Sf.2.1
  have hown := Sf.2.2.2.1
  have hts := Sf.2.2.2.2
  have hl : lv_has ls 2 [(0, .ref s0)] := hl
  refine lv_aload_n hx hb dSe_find_0 rfl (lv_at hl 0 rfl) ?_
  refine gf_Se_25 Sf w.1 0 rfl rfl dSe_find_1 ?_
  refine z_ifneN (tgt := 31) hx hb (by omega) dSe_find_4 (by decide) (fun c4 => ?_) (fun c4 => ?_)
  · skip
    exact hret _ _ _ _ () _ w (rfl) (trivial) dSe_find_31 rfl
  · skip
    exact absurd c4 (by omega)

def rm_Search_init : Room := { frames := 1, cells := 3, slots := 8204, locals := 40 }
set_option maxHeartbeats 4000000 in
set_option maxRecDepth 100000 in
theorem c_Search_init (l : Launch) (G : zG) (s0 g : Nat)  (sz : Nat) : Met l ySe_init (.code ySe_init cSe_init 2 none :: zT) rm_Search_init (zPw G [.ref s0, .ref g] [(s0, zO 3 [.null, .null, .null, .null, .int (nI 0), .int (nI 0)])] sz) (zQ (S := Nat × Nat × Nat) G (fun u => none) (fun u => [(s0, zO 3 [.ref g, .ref u.1, .ref u.2.1, .ref u.2.2, .int (nI 0), .int (nI 0)]), (u.1, zI G 12 (fun j => nI ((fun _ => 0) j))), (u.2.1, zI G 4096 (fun j => nI ((fun _ => 0) j))), (u.2.2, zI G 4096 (fun j => mI ((fun _ => 1) j)))]) (va_A [(s0, zO 3 [.null, .null, .null, .null, .int (nI 0), .int (nI 0)])] sz) (fun u => True)) 3 8204 (va_A [(s0, zO 3 [.null, .null, .null, .null, .int (nI 0), .int (nI 0)])] sz) := by
  refine z_metWv (by decide) (Nat.le_of_ble_eq_true rfl) (fun p e s m args below meth c ls A Q Sf hnm w hl hret => ?_)
  obtain ⟨H, hH⟩ : ∃ H, H = s.heap := ⟨_, rfl⟩
  obtain ⟨locs, hlo⟩ : ∃ L : List Loc, L = [] := ⟨_, rfl⟩
  rw [← hH, ← hlo] at w
  rw [← hH, ← hlo]
  clear hH hlo
  have Sf : CallFix p m c cSe_init 2 s args zT RSe := Sf
  have hx := Sf.1
  have hb := Sf.2.1
  have hown := Sf.2.2.2.1
  have hts := Sf.2.2.2.2
  have hl : lv_has ls 2 [(0, .ref s0), (1, .ref g)] := hl
  refine lv_aload_n hx hb dSe_init_0 rfl (lv_at hl 0 rfl) ?_
  refine W.objInit hx hb hown (hts _ oi_Se_3) (hts _ oi_inst) (hts _ oi_code) rfl (by rw [Sf.2.2.1]; exact hl.1) rfl dSe_init_1 (Nat.le_of_ble_eq_true rfl) (Nat.le_of_ble_eq_true rfl) ?_
  refine W.eq (g2 := F0 m 4 ls []) rfl ?_
  refine lv_aload_n hx hb dSe_init_4 rfl (lv_at hl 0 rfl) ?_
  refine lv_bipush (v := nI 12) hx hb dSe_init_5 (by decide) ?_
  refine z_newi hx hb hts ka_int w (N := 12) (by omega) (by decide) (by decide) dSe_init_7 (fun q1 H w => ?_)
  have w := w.eq (ws' := [(s0, zO 3 [.null, .null, .null, .null, .int (nI 0), .int (nI 0)]), (q1, zI G 12 (fun j => nI ((fun _ => 0) j)))]) rfl
  refine pf_Se_9 Sf hnm w 0 rfl rfl rfl (Nat.le_of_ble_eq_true rfl) (ws' := [(s0, zO 3 [.null, .ref q1, .null, .null, .int (nI 0), .int (nI 0)]), (q1, zI G 12 (fun j => nI ((fun _ => 0) j)))]) rfl dSe_init_9 (fun H locs w => ?_)
  refine lv_aload_n hx hb dSe_init_12 rfl (lv_at hl 0 rfl) ?_
  refine lv_sipush (v := nI 4096) hx hb dSe_init_13 (by decide) ?_
  refine z_newi hx hb hts ka_int w (N := 4096) (by omega) (by decide) (by decide) dSe_init_16 (fun q2 H w => ?_)
  have w := w.eq (ws' := [(s0, zO 3 [.null, .ref q1, .null, .null, .int (nI 0), .int (nI 0)]), (q1, zI G 12 (fun j => nI ((fun _ => 0) j))), (q2, zI G 4096 (fun j => nI ((fun _ => 0) j)))]) rfl
  refine pf_Se_15 Sf hnm w 0 rfl rfl rfl (Nat.le_of_ble_eq_true rfl) (ws' := [(s0, zO 3 [.null, .ref q1, .ref q2, .null, .int (nI 0), .int (nI 0)]), (q1, zI G 12 (fun j => nI ((fun _ => 0) j))), (q2, zI G 4096 (fun j => nI ((fun _ => 0) j)))]) rfl dSe_init_18 (fun H locs w => ?_)
  refine lv_aload_n hx hb dSe_init_21 rfl (lv_at hl 0 rfl) ?_
  refine lv_sipush (v := nI 4096) hx hb dSe_init_22 (by decide) ?_
  refine z_newi hx hb hts ka_int w (N := 4096) (by omega) (by decide) (by decide) dSe_init_25 (fun q3 H w => ?_)
  have w := w.eq (ws' := [(s0, zO 3 [.null, .ref q1, .ref q2, .null, .int (nI 0), .int (nI 0)]), (q1, zI G 12 (fun j => nI ((fun _ => 0) j))), (q2, zI G 4096 (fun j => nI ((fun _ => 0) j))), (q3, zI G 4096 (fun j => nI ((fun _ => 0) j)))]) rfl
  refine pf_Se_18 Sf hnm w 0 rfl rfl rfl (Nat.le_of_ble_eq_true rfl) (ws' := [(s0, zO 3 [.null, .ref q1, .ref q2, .ref q3, .int (nI 0), .int (nI 0)]), (q1, zI G 12 (fun j => nI ((fun _ => 0) j))), (q2, zI G 4096 (fun j => nI ((fun _ => 0) j))), (q3, zI G 4096 (fun j => nI ((fun _ => 0) j)))]) rfl dSe_init_27 (fun H locs w => ?_)
  refine lv_aload_n hx hb dSe_init_30 rfl (lv_at hl 0 rfl) ?_
  refine lv_aload_n hx hb dSe_init_31 rfl (lv_at hl 1 rfl) ?_
  refine pf_Se_21 Sf hnm w 0 rfl rfl rfl (Nat.le_of_ble_eq_true rfl) (ws' := [(s0, zO 3 [.ref g, .ref q1, .ref q2, .ref q3, .int (nI 0), .int (nI 0)]), (q1, zI G 12 (fun j => nI ((fun _ => 0) j))), (q2, zI G 4096 (fun j => nI ((fun _ => 0) j))), (q3, zI G 4096 (fun j => nI ((fun _ => 0) j)))]) rfl dSe_init_32 (fun H locs w => ?_)
  have w := w.eq (ws' := [(s0, zO 3 [.ref g, .ref q1, .ref q2, .ref q3, .int (nI 0), .int (nI 0)]), (q1, zI G 12 (fun j => nI ((fun _ => 0) j))), (q2, zI G 4096 (fun j => nI ((fun _ => 0) j))), (q3, zI G 4096 (fun j => mI ((fun _ => 1) j)))]) (by rw [mz1])
  exact hret _ _ _ _ (q1, q2, q3) _ w (rfl) (trivial) dSe_init_35 rfl
