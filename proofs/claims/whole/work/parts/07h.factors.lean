def rm_Fs_afterLastName : Room := { frames := 0, cells := 0, slots := 0, locals := 0 }
set_option maxHeartbeats 4000000 in
set_option maxRecDepth 100000 in
theorem c_Fs_afterLastName (l : Launch) (G : zG) (S : Nat) (hS : S < 4096) : Met l yFs_afterLastName (.code yFs_afterLastName cFs_afterLastName 3 (some .int) :: zT) rm_Fs_afterLastName (zPr G [.int (nI S)] []) (k2_QcV (.int (nI (alF S 12)))) 0 0 (fun _ => False) := by
  refine z_metRi (by decide) (Nat.le_of_ble_eq_true rfl) (fun p e s m args below meth c ls Q Sf r hl hret => ?_)
  have Sf : CallFix p m c cFs_afterLastName 3 s args zT RFs := Sf
  have hx := Sf.1
  have hb := Sf.2.1
  have hown := Sf.2.2.2.1
  have hts := Sf.2.2.2.2
  have hl : lv_has ls 3 [(0, .int (nI S))] := hl
  refine lv_iconst (v := (nI 0)) hx hb dFs_afterLastName_0 (by decide) ?_
  refine lv_istore_n (lv' := [(1, .int (nI 0)), (0, .int (nI S))]) hx hb dFs_afterLastName_1 rfl hl (by decide) rfl (fun ls hl => ?_)
  refine lv_iconst (v := (nI 0)) hx hb dFs_afterLastName_2 (by decide) ?_
  refine lv_istore_n (lv' := [(2, .int (nI 0)), (1, .int (nI 0)), (0, .int (nI S))]) hx hb dFs_afterLastName_3 rfl hl (by decide) rfl (fun ls hl => ?_)
  have L4 : ∀ (fu4 : Nat) (i a : Nat), (i ≤ 12) → (a = alF S i) → (12 - i) < fu4 → ∀ (ls : Array Slot), lv_has ls 3 [(2, .int (nI i)), (1, .int (nI a)), (0, .int (nI S))] → W p l e rm_Fs_afterLastName s m args below meth c s.heap [] 0 0 Q (F0 m 4 ls []) := by
    intro fu4
    induction fu4 with
    | zero =>
      intro i a hi ha hm4
      exact absurd hm4 (Nat.not_lt_zero _)
    | succ fu4 ih4 =>
      intro i a hi ha hm4 ls hl
      refine lv_iload_n hx hb dFs_afterLastName_4 rfl (lv_at hl 0 rfl) ?_
      refine lv_bipush (v := nI 12) hx hb dFs_afterLastName_5 (by decide) ?_
      refine z_icmpge (tgt := 28) hx hb (by omega) (by omega) dFs_afterLastName_7 (by decide) (fun c7 => ?_) (fun c7 => ?_)
      · skip
        refine lv_iload_n hx hb dFs_afterLastName_28 rfl (lv_at hl 1 rfl) ?_
        exact hret _ _ _ dFs_afterLastName_29 (by rw [ha, show i = 12 by omega])
      · skip
        refine lv_iload_n hx hb dFs_afterLastName_10 rfl (lv_at hl 2 rfl) ?_
        refine lv_iconst (v := (nI 1)) hx hb dFs_afterLastName_11 (by decide) ?_
        refine lv_iload_n hx hb dFs_afterLastName_12 rfl (lv_at hl 0 rfl) ?_
        refine z_shl1 hx hb (by omega) dFs_afterLastName_13 ?_
        refine z_andN hx hb dFs_afterLastName_14 ?_
        refine z_ifeqbit (tgt := 22) hx hb (by omega) dFs_afterLastName_15 (by decide) (fun c15 => ?_) (fun c15 => ?_)
        · skip
          refine z_iinc (d := 1) (lv' := [(2, .int (nI (i + 1))), (1, .int (nI a)), (0, .int (nI S))]) hx hb dFs_afterLastName_22 hl (k := 0) rfl (by decide) (by decide) rfl (fun ls hl => ?_)
          refine lv_goto (tgt := 4) hx hb dFs_afterLastName_25 (by decide) ?_
          refine ih4 (i + 1) _ ?_ ?_ ?_ ls (lv_sub hl [0, 1, 2] rfl)
          · omega
          · first | (rw [alF_t c15]; done) | (rw [alF_f c15, ha])
          · omega
        · skip
          refine lv_iload_n hx hb dFs_afterLastName_18 rfl (lv_at hl 0 rfl) ?_
          refine lv_iconst (v := (nI 1)) hx hb dFs_afterLastName_19 (by decide) ?_
          refine z_addN hx hb dFs_afterLastName_20 ?_
          refine lv_istore_n (lv' := [(1, .int (nI (i + 1))), (2, .int (nI i)), (0, .int (nI S))]) hx hb dFs_afterLastName_21 rfl hl (by decide) rfl (fun ls hl => ?_)
          refine z_iinc (d := 1) (lv' := [(2, .int (nI (i + 1))), (1, .int (nI (i + 1))), (0, .int (nI S))]) hx hb dFs_afterLastName_22 hl (k := 1) rfl (by decide) (by decide) rfl (fun ls hl => ?_)
          refine lv_goto (tgt := 4) hx hb dFs_afterLastName_25 (by decide) ?_
          refine ih4 (i + 1) (i + 1) ?_ ?_ ?_ ls (lv_sub hl [0, 1, 2] rfl)
          · omega
          · first | (rw [alF_t c15]; done) | (rw [alF_f c15, ha])
          · omega
  refine L4 ((12 - 0) + 1) 0 0 ?_ ?_ ?_ ls (lv_sub hl [0, 1, 2] rfl)
  · omega
  · rfl
  · exact Nat.lt_succ_self _

def rm_Fs_numberedIn : Room := { frames := 0, cells := 0, slots := 0, locals := 0 }
set_option maxHeartbeats 4000000 in
set_option maxRecDepth 100000 in
theorem c_Fs_numberedIn (l : Launch) (G : zG) (fz g bn bl : Nat) (nf ca : Nat) (fB : Nat → Option Nat) (k : Nat) (hnf : nf ≤ 16) (hk : k < nf) : Met l yFs_numbered (.code yFs_numbered cFs_numbered 2 (some (.object "TableOrders$Factor")) :: zT) rm_Fs_numberedIn (zPr G [.ref fz, .int (nI k)] [(fz, zO 1 [.ref g, .ref bn, .ref bl, .int (nI nf), .int (nI ca)]), (bn, zF G 16 fB)]) (k2_QcV (va_rf (fB k))) 0 0 (fun _ => False) := by
  refine z_metRq (by decide) (Nat.le_of_ble_eq_true rfl) (fun p e s m args below meth c ls Q Sf r hl hret => ?_)
  have Sf : CallFix p m c cFs_numbered 2 s args zT RFs := Sf
  have hx := Sf.1
  have hb := Sf.2.1
  have hown := Sf.2.2.2.1
  have hts := Sf.2.2.2.2
  have hl : lv_has ls 2 [(0, .ref fz), (1, .int (nI k))] := hl
  refine lv_iload_n hx hb dFs_numbered_0 rfl (lv_at hl 1 rfl) ?_
  refine lv_if_lt (tgt := 12) hx hb dFs_numbered_1 (by decide) (fun c1 => ?_) (fun c1 => ?_)
  · skip
    exact absurd c1 (nI_pos (by omega))
  · skip
    refine lv_iload_n hx hb dFs_numbered_4 rfl (lv_at hl 1 rfl) ?_
    refine lv_aload_n hx hb dFs_numbered_5 rfl (lv_at hl 0 rfl) ?_
    refine gf_Fs_25 Sf r 0 rfl rfl dFs_numbered_6 ?_
    refine z_icmplt (tgt := 16) hx hb (by omega) (by omega) dFs_numbered_9 (by decide) (fun c9 => ?_) (fun c9 => ?_)
    · skip
      refine lv_aload_n hx hb dFs_numbered_16 rfl (lv_at hl 0 rfl) ?_
      refine gf_Fs_11 Sf r 0 rfl rfl dFs_numbered_17 ?_
      refine lv_iload_n hx hb dFs_numbered_20 rfl (lv_at hl 1 rfl) ?_
      refine z_aald hx hb r 1 (k := k) rfl (by omega) (by omega) dFs_numbered_21 ?_
      exact hret _ _ _ dFs_numbered_22 (rfl)
    · skip
      exact absurd c9 (by omega)

def rm_Fs_numberedOut : Room := { frames := 0, cells := 0, slots := 0, locals := 0 }
set_option maxHeartbeats 4000000 in
set_option maxRecDepth 100000 in
theorem c_Fs_numberedOut (l : Launch) (G : zG) (fz g bn bl : Nat) (nf ca : Nat) (x : Int32) (hnf : nf ≤ 16) (hk : ¬ knP x nf) : Met l yFs_numbered (.code yFs_numbered cFs_numbered 2 (some (.object "TableOrders$Factor")) :: zT) rm_Fs_numberedOut (zPr G [.ref fz, .int x] [(fz, zO 1 [.ref g, .ref bn, .ref bl, .int (nI nf), .int (nI ca)])]) (k2_QcV (va_rf none)) 0 0 (fun _ => False) := by
  refine z_metRq (by decide) (Nat.le_of_ble_eq_true rfl) (fun p e s m args below meth c ls Q Sf r hl hret => ?_)
  have Sf : CallFix p m c cFs_numbered 2 s args zT RFs := Sf
  have hx := Sf.1
  have hb := Sf.2.1
  have hown := Sf.2.2.2.1
  have hts := Sf.2.2.2.2
  have hl : lv_has ls 2 [(0, .ref fz), (1, .int x)] := hl
  refine lv_iload_n hx hb dFs_numbered_0 rfl (lv_at hl 1 rfl) ?_
  refine lv_if_lt (tgt := 12) hx hb dFs_numbered_1 (by decide) (fun c1 => ?_) (fun c1 => ?_)
  · skip
    refine lv_null hx hb dFs_numbered_12 ?_
    refine lv_goto (tgt := 22) hx hb dFs_numbered_13 (by decide) ?_
    exact hret _ _ none dFs_numbered_22 (rfl)
  · skip
    refine lv_iload_n hx hb dFs_numbered_4 rfl (lv_at hl 1 rfl) ?_
    refine lv_aload_n hx hb dFs_numbered_5 rfl (lv_at hl 0 rfl) ?_
    refine gf_Fs_25 Sf r 0 rfl rfl dFs_numbered_6 ?_
    refine lv_icmp_lt (tgt := 16) hx hb dFs_numbered_9 (by decide) (fun c9 => ?_) (fun c9 => ?_)
    · skip
      exact absurd (show knP x nf from ⟨c1, Int32.not_le.mpr c9⟩) hk
    · skip
      refine lv_null hx hb dFs_numbered_12 ?_
      refine lv_goto (tgt := 22) hx hb dFs_numbered_13 (by decide) ?_
      exact hret _ _ none dFs_numbered_22 (rfl)

def rm_Fs_setCopies : Room := { frames := 2, cells := 0, slots := 0, locals := 46 }
set_option maxHeartbeats 4000000 in
set_option maxRecDepth 100000 in
theorem c_Fs_setCopies (l : Launch) (G : zG) (fz g bn bl : Nat) (nf ca : Nat) (f fn fs fe fp : Nat) (nx : Option Nat) (t k cs : Nat) (E P : Nat → Nat) (n : Nat) (hcs : cs ≤ 256) (hn : n ≤ 3) (hca : t ≤ ca) (sz : Nat) : Met l yFs_setCopies (.code yFs_setCopies cFs_setCopies 4 (some .int) :: zT) rm_Fs_setCopies (zPw G [.ref fz, .ref f, .int (nI n)] [(fz, zO 1 [.ref g, .ref bn, .ref bl, .int (nI nf), .int (nI ca)]), (f, zO 0 [.ref fn, .ref fs, .ref fe, .ref fp, .int (nI k), .int (nI cs), .int (nI t), va_rf nx]), (fe, zI G 256 (fun j => nI (E j))), (fp, zI G 256 (fun j => nI (P j)))] sz) (zQ (S := Unit) G (fun u => some (.int (nI t))) (fun u => [(fz, zO 1 [.ref g, .ref bn, .ref bl, .int (nI nf), .int (nI (ca - t + n))]), (f, zO 0 [.ref fn, .ref fs, .ref fe, .ref fp, .int (nI k), .int (nI cs), .int (nI n), va_rf nx]), (fe, zI G 256 (fun j => nI (E j))), (fp, zI G 256 (fun j => nI ((rowF P (fun e => E e ^ n) cs) j)))]) (va_A [(fz, zO 1 [.ref g, .ref bn, .ref bl, .int (nI nf), .int (nI ca)]), (f, zO 0 [.ref fn, .ref fs, .ref fe, .ref fp, .int (nI k), .int (nI cs), .int (nI t), va_rf nx]), (fe, zI G 256 (fun j => nI (E j))), (fp, zI G 256 (fun j => nI (P j)))] sz) (fun u => True)) 0 0 (va_A [(fz, zO 1 [.ref g, .ref bn, .ref bl, .int (nI nf), .int (nI ca)]), (f, zO 0 [.ref fn, .ref fs, .ref fe, .ref fp, .int (nI k), .int (nI cs), .int (nI t), va_rf nx]), (fe, zI G 256 (fun j => nI (E j))), (fp, zI G 256 (fun j => nI (P j)))] sz) := by
  refine z_metWi (by decide) (Nat.le_of_ble_eq_true rfl) (fun p e s m args below meth c ls A Q Sf hnm w hl hret => ?_)
  obtain ⟨H, hH⟩ : ∃ H, H = s.heap := ⟨_, rfl⟩
  obtain ⟨locs, hlo⟩ : ∃ L : List Loc, L = [] := ⟨_, rfl⟩
  rw [← hH, ← hlo] at w
  rw [← hH, ← hlo]
  clear hH hlo
  have Sf : CallFix p m c cFs_setCopies 4 s args zT RFs := Sf
  have hx := Sf.1
  have hb := Sf.2.1
  have hown := Sf.2.2.2.1
  have hts := Sf.2.2.2.2
  have hl : lv_has ls 4 [(0, .ref fz), (1, .ref f), (2, .int (nI n))] := hl
  refine lv_aload_n hx hb dFs_setCopies_0 rfl (lv_at hl 1 rfl) ?_
  refine lv_iload_n hx hb dFs_setCopies_1 rfl (lv_at hl 2 rfl) ?_
  refine z_wV (wr := [(fz, zO 1 [.ref g, .ref bn, .ref bl, .int (nI nf), .int (nI ca)])]) (As := [.int (nI n)]) (rest := []) Sf (c_Factor_setTimes l G f fn fs fe fp nx t k cs E P n (by first | assumption | omega) (by first | assumption | omega) H.size) mv_Fs_44 ⟨rfl, rfl⟩ ⟨Nat.le_of_ble_eq_true rfl, Nat.le_of_ble_eq_true rfl⟩ w [1, 2, 3] [0] rfl rfl (by decide) (by decide) (by decide) 1 rfl rfl rfl rfl hl.1 rfl (Nat.le_of_ble_eq_true rfl) dFs_setCopies_2 ⟨Nat.le_of_ble_eq_true rfl, Nat.le_of_ble_eq_true rfl⟩ (fun u1 H locs hu1 w => ?_)
  have w := w.eq (ws' := [(fz, zO 1 [.ref g, .ref bn, .ref bl, .int (nI nf), .int (nI ca)]), (f, zO 0 [.ref fn, .ref fs, .ref fe, .ref fp, .int (nI k), .int (nI cs), .int (nI n), va_rf nx]), (fe, zI G 256 (fun j => nI (E j))), (fp, zI G 256 (fun j => nI ((rowF P (fun e => E e ^ n) cs) j)))]) rfl
  refine W.eq (g2 := F0 m 5 ls [.int (nI t)]) rfl ?_
  refine lv_istore_n (lv' := [(3, .int (nI t)), (0, .ref fz), (1, .ref f), (2, .int (nI n))]) hx hb dFs_setCopies_5 rfl hl (by decide) rfl (fun ls hl => ?_)
  refine lv_aload_n hx hb dFs_setCopies_6 rfl (lv_at hl 1 rfl) ?_
  refine lv_dup hx hb dFs_setCopies_7 rfl ?_
  refine gf_Fs_41 Sf w.1 0 rfl rfl dFs_setCopies_8 ?_
  refine lv_iload_n hx hb dFs_setCopies_11 rfl (lv_at hl 3 rfl) ?_
  refine lv_iload_n hx hb dFs_setCopies_12 rfl (lv_at hl 0 rfl) ?_
  refine lv_isub hx hb dFs_setCopies_13 ?_
  refine lv_iadd hx hb dFs_setCopies_14 ?_
  refine pf_Fs_41 Sf w 0 rfl rfl rfl (Nat.le_of_ble_eq_true rfl) (ws' := [(fz, zO 1 [.ref g, .ref bn, .ref bl, .int (nI nf), .int ((nI ca) + ((nI n) - (nI t)))]), (f, zO 0 [.ref fn, .ref fs, .ref fe, .ref fp, .int (nI k), .int (nI cs), .int (nI n), va_rf nx]), (fe, zI G 256 (fun j => nI (E j))), (fp, zI G 256 (fun j => nI ((rowF P (fun e => E e ^ n) cs) j)))]) rfl dFs_setCopies_15 (fun H locs w => ?_)
  refine lv_iload_n hx hb dFs_setCopies_18 rfl (lv_at hl 0 rfl) ?_
  exact hret _ _ _ _ () _ _ w (by rw [ca_eq hca]) (trivial) dFs_setCopies_19 (rfl)

def rm_Fs_productWithoutNames : Room := { frames := 0, cells := 0, slots := 0, locals := 0 }
set_option maxHeartbeats 4000000 in
set_option maxRecDepth 100000 in
theorem c_Fs_productWithoutNames (l : Launch) (G : zG) (fz g bn bl : Nat) (nf ca : Nat) (fL : Nat → Option Nat) (X : Nat → fR) (L : List Nat) (hX : ∀ i, i < 16 → fOk (X i)) (hL0 : fL 0 = lkd X L) (hch : chOk X 16 L) : Met l yFs_productWithoutNames (.code yFs_productWithoutNames cFs_productWithoutNames 4 (some .long) :: zT) rm_Fs_productWithoutNames (zPr G [.ref fz] ([(fz, zO 1 [.ref g, .ref bn, .ref bl, .int (nI nf), .int (nI ca)]), (bl, zF G 13 fL)] ++ pool G X 16)) (k2_QcV (.long (lN (chP X L)))) 0 0 (fun _ => False) := by
  refine z_metRl (by decide) (Nat.le_of_ble_eq_true rfl) (fun p e s m args below meth c ls Q Sf r hl hret => ?_)
  have Sf : CallFix p m c cFs_productWithoutNames 4 s args zT RFs := Sf
  have hx := Sf.1
  have hb := Sf.2.1
  have hown := Sf.2.2.2.1
  have hts := Sf.2.2.2.2
  have hl : lv_has ls 4 [(0, .ref fz)] := hl
  refine lv_lconst (v := lN 1) hx hb dFs_productWithoutNames_0 (by decide) ?_
  refine lv_lstore_n (lv' := [(1, .long (lN 1)), (0, .ref fz)]) hx hb dFs_productWithoutNames_1 rfl hl (by decide) rfl (fun ls hl => ?_)
  refine lv_aload_n hx hb dFs_productWithoutNames_2 rfl (lv_at hl 1 rfl) ?_
  refine gf_Fs_17 Sf r 0 rfl rfl dFs_productWithoutNames_3 ?_
  refine lv_iconst (v := (nI 0)) hx hb dFs_productWithoutNames_6 (by decide) ?_
  refine z_aald hx hb r 1 (k := 0) rfl (by omega) (by omega) dFs_productWithoutNames_7 ?_
  rw [hL0]
  refine lv_astore_nQ (lv' := [(3, va_rf (lkd X L)), (1, .long (lN 1)), (0, .ref fz)]) hx hb dFs_productWithoutNames_8 rfl hl (by decide) rfl (fun ls hl => ?_)
  have L9 : ∀ (fu9 : Nat) (acc : Nat) (li : List Nat), (chOk X 16 li) → (acc * chP X li = chP X L) → (li.length) < fu9 → ∀ (ls : Array Slot), lv_has ls 4 [(3, va_rf (lkd X li)), (1, .long (lN acc)), (0, .ref fz)] → W p l e rm_Fs_productWithoutNames s m args below meth c s.heap [] 0 0 Q (F0 m 9 ls []) := by
    intro fu9
    induction fu9 with
    | zero =>
      intro acc li hli hac hm9
      exact absurd hm9 (Nat.not_lt_zero _)
    | succ fu9 ih9 =>
      intro acc li hli hac hm9 ls hl
      refine lv_aload_nQ hx hb dFs_productWithoutNames_9 rfl (lv_at hl 0 rfl) ?_
      rcases li with _ | ⟨i, li⟩
      · skip
        have hl : lv_has ls 4 [(3, .null), (1, .long (lN acc)), (0, .ref fz)] := hl
        refine W.eq (g2 := F0 m 10 ls [.null]) rfl ?_
        refine lv_ifnullN (tgt := 31) hx hb dFs_productWithoutNames_10 (by decide) ?_
        refine lv_lload_n hx hb dFs_productWithoutNames_31 rfl (lv_at hl 1 rfl) ?_
        exact hret _ _ _ dFs_productWithoutNames_32 (by rw [← hac]; exact congrArg lN (Nat.mul_one _).symm)
      · skip
        have hl : lv_has ls 4 [(3, .ref (xA (X i))), (1, .long (lN acc)), (0, .ref fz)] := hl
        refine W.eq (g2 := F0 m 10 ls [.ref (xA (X i))]) rfl ?_
        obtain ⟨hi, hnx, hli⟩ := hli
        have hfo := hX i hi
        have r : zr G s [(fz, zO 1 [.ref g, .ref bn, .ref bl, .int (nI nf), .int (nI ca)]), (bl, zF G 13 fL), (xA (X i), zO 0 [.ref (xN (X i)), .ref (xS (X i)), .ref (xE (X i)), .ref (xP (X i)), .int (nI (xK (X i))), .int (nI (xC (X i))), .int (nI (xT (X i))), va_rf (xX (X i))]), (xN (X i), zI G 4 (fun j => nI ((yN (X i)) j))), (xS (X i), zI G 4 (fun j => nI ((yS (X i)) j))), (xE (X i), zI G 256 (fun j => nI ((yE (X i)) j))), (xP (X i), zI G 256 (fun j => nI ((yP (X i)) j)))] s.heap := zr.of_sub r (pool_mem [(fz, zO 1 [.ref g, .ref bn, .ref bl, .int (nI nf), .int (nI ca)]), (bl, zF G 13 fL)] hi)
        refine lv_ifnull hx hb dFs_productWithoutNames_10 ?_
        refine lv_lload_n hx hb dFs_productWithoutNames_13 rfl (lv_at hl 1 rfl) ?_
        refine lv_aload_n hx hb dFs_productWithoutNames_14 rfl (lv_at hl 0 rfl) ?_
        refine gf_Fs_47 Sf r 2 rfl rfl dFs_productWithoutNames_15 ?_
        refine lv_iconst (v := (nI 0)) hx hb dFs_productWithoutNames_18 (by decide) ?_
        refine z_iald hx hb r 6 (k := 0) rfl (by decide) (by decide) dFs_productWithoutNames_19 ?_
        refine lv_i2l (v := lN ((yP (X i)) 0)) hx hb dFs_productWithoutNames_20 (nI_l (Nat.lt_of_le_of_lt (hfo.2.2.2.2 _) (by decide))) ?_
        refine z_lmulN hx hb dFs_productWithoutNames_21 ?_
        refine lv_lstore_n (lv' := [(1, .long (lN (acc * ((yP (X i)) 0)))), (3, .ref (xA (X i))), (0, .ref fz)]) hx hb dFs_productWithoutNames_22 rfl hl (by decide) rfl (fun ls hl => ?_)
        refine lv_aload_n hx hb dFs_productWithoutNames_23 rfl (lv_at hl 1 rfl) ?_
        refine gf_Fs_37 Sf r 2 rfl rfl dFs_productWithoutNames_24 ?_
        rw [hnx]
        refine lv_astore_nQ (lv' := [(3, va_rf (lkd X li)), (1, .long (lN (acc * ((yP (X i)) 0)))), (0, .ref fz)]) hx hb dFs_productWithoutNames_27 rfl hl (by decide) rfl (fun ls hl => ?_)
        refine lv_goto (tgt := 9) hx hb dFs_productWithoutNames_28 (by decide) ?_
        refine ih9 (acc * ((yP (X i)) 0)) li ?_ ?_ ?_ ls (lv_sub hl [0, 1, 2] rfl)
        · exact hli
        · rw [← hac]; exact Nat.mul_assoc _ _ _
        · simp only [List.length_cons] at hm9; omega
  refine L9 ((L.length) + 1) 1 L ?_ ?_ ?_ ls (lv_sub hl [0, 1, 2] rfl)
  · exact hch
  · exact Nat.one_mul _
  · exact Nat.lt_succ_self _
