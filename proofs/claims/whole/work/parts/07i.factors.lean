def rm_Fs_multiplyLast : Room := { frames := 2, cells := 0, slots := 0, locals := 50 }
set_option maxHeartbeats 4000000 in
set_option maxRecDepth 100000 in
theorem c_Fs_multiplyLast (l : Launch) (G : zG) (fz g bn bl : Nat) (nf ca : Nat) (av an n : Nat) (st : Int32) (fL : Nat → Option Nat) (X : Nat → fR) (L : List Nat) (V C Pr : Nat → Nat) (a ch pr fr : Nat) (hX : ∀ i, i < 16 → fOk (X i)) (ha : a < 12) (hfr : fr + V a ≤ 48) (hL0 : fL (a + 1) = lkd X L) (hch : chOk X 16 L) (hK0 : ∀ i, i ∈ L → 0 < xK (X i)) (hE0 : ∀ i, i ∈ L → ∀ v, v < V a → xEn X C i + v * yS (X i) (xK (X i) - 1) < xC (X i)) (sz : Nat) : Met l yFs_multiplyLast (.code yFs_multiplyLast cFs_multiplyLast 7 none :: zT) rm_Fs_multiplyLast (zPw G [.ref fz, .int (nI a), .ref pr, .int (nI fr), .ref ch] ([(fz, zO 1 [.ref g, .ref bn, .ref bl, .int (nI nf), .int (nI ca)]), (g, zO 2 [.ref av, .ref an, .int (nI n), .int st]), (av, zI G 12 (fun j => nI (V j))), (bl, zF G 13 fL), (ch, zI G 12 (fun j => nI (C j))), (pr, zL G 48 (fun j => lN (Pr j)))] ++ pool G X 16) sz) (zQ (S := Unit) G (fun u => none) (fun u => ([(fz, zO 1 [.ref g, .ref bn, .ref bl, .int (nI nf), .int (nI ca)]), (g, zO 2 [.ref av, .ref an, .int (nI n), .int st]), (av, zI G 12 (fun j => nI (V j))), (bl, zF G 13 fL), (ch, zI G 12 (fun j => nI (C j))), (pr, zL G 48 (fun j => lN ((mlF X C fr (V a) L Pr) j)))] ++ pool G X 16)) (va_A ([(fz, zO 1 [.ref g, .ref bn, .ref bl, .int (nI nf), .int (nI ca)]), (g, zO 2 [.ref av, .ref an, .int (nI n), .int st]), (av, zI G 12 (fun j => nI (V j))), (bl, zF G 13 fL), (ch, zI G 12 (fun j => nI (C j))), (pr, zL G 48 (fun j => lN (Pr j)))] ++ pool G X 16) sz) (fun u => True)) 0 0 (va_A ([(fz, zO 1 [.ref g, .ref bn, .ref bl, .int (nI nf), .int (nI ca)]), (g, zO 2 [.ref av, .ref an, .int (nI n), .int st]), (av, zI G 12 (fun j => nI (V j))), (bl, zF G 13 fL), (ch, zI G 12 (fun j => nI (C j))), (pr, zL G 48 (fun j => lN (Pr j)))] ++ pool G X 16) sz) := by
  refine z_metWv (by decide) (Nat.le_of_ble_eq_true rfl) (fun p e s m args below meth c ls A Q Sf hnm w hl hret => ?_)
  obtain ⟨H, hH⟩ : ∃ H, H = s.heap := ⟨_, rfl⟩
  obtain ⟨locs, hlo⟩ : ∃ L : List Loc, L = [] := ⟨_, rfl⟩
  rw [← hH, ← hlo] at w
  rw [← hH, ← hlo]
  clear hH hlo
  have Sf : CallFix p m c cFs_multiplyLast 7 s args zT RFs := Sf
  have hx := Sf.1
  have hb := Sf.2.1
  have hown := Sf.2.2.2.1
  have hts := Sf.2.2.2.2
  have hl : lv_has ls 7 [(0, .ref fz), (1, .int (nI a)), (2, .ref pr), (3, .int (nI fr)), (4, .ref ch)] := hl
  refine lv_aload_n hx hb dFs_multiplyLast_0 rfl (lv_at hl 0 rfl) ?_
  refine gf_Fs_20 Sf w.1 0 rfl rfl dFs_multiplyLast_1 ?_
  refine gf_Fs_51 Sf w.1 1 rfl rfl dFs_multiplyLast_4 ?_
  refine lv_iload_n hx hb dFs_multiplyLast_7 rfl (lv_at hl 1 rfl) ?_
  refine z_iald hx hb w.1 2 (k := a) rfl (by omega) (by omega) dFs_multiplyLast_8 ?_
  refine lv_istore (lv' := [(5, .int (nI (V a))), (0, .ref fz), (1, .int (nI a)), (2, .ref pr), (3, .int (nI fr)), (4, .ref ch)]) hx hb dFs_multiplyLast_9 hl (by decide) rfl (fun ls hl => ?_)
  refine lv_aload_n hx hb dFs_multiplyLast_11 rfl (lv_at hl 1 rfl) ?_
  refine gf_Fs_17 Sf w.1 0 rfl rfl dFs_multiplyLast_12 ?_
  refine lv_iload_n hx hb dFs_multiplyLast_15 rfl (lv_at hl 2 rfl) ?_
  refine lv_iconst (v := (nI 1)) hx hb dFs_multiplyLast_16 (by decide) ?_
  refine z_addN hx hb dFs_multiplyLast_17 ?_
  refine z_aald hx hb w.1 3 (k := (a + 1)) rfl (by omega) (by omega) dFs_multiplyLast_18 ?_
  rw [hL0]
  refine lv_astoreQ (lv' := [(6, va_rf (lkd X L)), (5, .int (nI (V a))), (0, .ref fz), (1, .int (nI a)), (2, .ref pr), (3, .int (nI fr)), (4, .ref ch)]) hx hb dFs_multiplyLast_19 hl (by decide) rfl (fun ls hl => ?_)
  have L21 : ∀ (fu21 : Nat) (li : List Nat) (F : Nat → Nat), (chOk X 16 li) → (∀ i, i ∈ li → i ∈ L) → (mlF X C fr (V a) li F = mlF X C fr (V a) L Pr) → (li.length) < fu21 → ∀ (H : Heap) (locs : List Loc), zw G A s ([(fz, zO 1 [.ref g, .ref bn, .ref bl, .int (nI nf), .int (nI ca)]), (g, zO 2 [.ref av, .ref an, .int (nI n), .int st]), (av, zI G 12 (fun j => nI (V j))), (bl, zF G 13 fL), (ch, zI G 12 (fun j => nI (C j))), (pr, zL G 48 (fun j => lN (F j)))] ++ pool G X 16) H locs → ∀ (ls : Array Slot), lv_has ls 7 [(6, va_rf (lkd X li)), (5, .int (nI (V a))), (0, .ref fz), (1, .int (nI a)), (2, .ref pr), (3, .int (nI fr)), (4, .ref ch)] → W p l e rm_Fs_multiplyLast s m args below meth c H locs 0 0 Q (F0 m 21 ls []) := by
    intro fu21
    induction fu21 with
    | zero =>
      intro li F hli hsu hF hm21
      exact absurd hm21 (Nat.not_lt_zero _)
    | succ fu21 ih21 =>
      intro li F hli hsu hF hm21 H locs w ls hl
      refine lv_aloadQ hx hb dFs_multiplyLast_21 (lv_at hl 0 rfl) ?_
      rcases li with _ | ⟨i, li⟩
      · skip
        have hl : lv_has ls 7 [(6, .null), (5, .int (nI (V a))), (0, .ref fz), (1, .int (nI a)), (2, .ref pr), (3, .int (nI fr)), (4, .ref ch)] := hl
        refine W.eq (g2 := F0 m 23 ls [.null]) rfl ?_
        refine lv_ifnullN (tgt := 47) hx hb dFs_multiplyLast_23 (by decide) ?_
        exact hret _ _ _ _ () _ w (by rw [← hF]; rfl) (trivial) dFs_multiplyLast_47 rfl
      · skip
        have hl : lv_has ls 7 [(6, .ref (xA (X i))), (5, .int (nI (V a))), (0, .ref fz), (1, .int (nI a)), (2, .ref pr), (3, .int (nI fr)), (4, .ref ch)] := hl
        refine W.eq (g2 := F0 m 23 ls [.ref (xA (X i))]) rfl ?_
        obtain ⟨hi, hnx, hli⟩ := hli
        have hfo := hX i hi
        have w := (w.of_perm (pool_in [(fz, zO 1 [.ref g, .ref bn, .ref bl, .int (nI nf), .int (nI ca)]), (g, zO 2 [.ref av, .ref an, .int (nI n), .int st]), (av, zI G 12 (fun j => nI (V j))), (bl, zF G 13 fL), (ch, zI G 12 (fun j => nI (C j))), (pr, zL G 48 (fun j => lN (F j)))] hi)).eq (ws' := ([(fz, zO 1 [.ref g, .ref bn, .ref bl, .int (nI nf), .int (nI ca)]), (g, zO 2 [.ref av, .ref an, .int (nI n), .int st]), (av, zI G 12 (fun j => nI (V j))), (bl, zF G 13 fL), (ch, zI G 12 (fun j => nI (C j))), (pr, zL G 48 (fun j => lN (F j))), (xA (X i), zO 0 [.ref (xN (X i)), .ref (xS (X i)), .ref (xE (X i)), .ref (xP (X i)), .int (nI (xK (X i))), .int (nI (xC (X i))), .int (nI (xT (X i))), va_rf (xX (X i))]), (xN (X i), zI G 4 (fun j => nI ((yN (X i)) j))), (xS (X i), zI G 4 (fun j => nI ((yS (X i)) j))), (xE (X i), zI G 256 (fun j => nI ((yE (X i)) j))), (xP (X i), zI G 256 (fun j => nI ((yP (X i)) j)))] ++ poolx G X i 16)) rfl
        refine lv_ifnull hx hb dFs_multiplyLast_23 ?_
        refine lv_aload hx hb dFs_multiplyLast_26 (lv_at hl 0 rfl) ?_
        refine lv_aload_n hx hb dFs_multiplyLast_28 rfl (lv_at hl 4 rfl) ?_
        refine lv_iload_n hx hb dFs_multiplyLast_29 rfl (lv_at hl 5 rfl) ?_
        refine lv_iload hx hb dFs_multiplyLast_30 (lv_at hl 1 rfl) ?_
        refine lv_aload hx hb dFs_multiplyLast_32 (lv_at hl 6 rfl) ?_
        have w := (w.permT (ws' := [(xA (X i), zO 0 [.ref (xN (X i)), .ref (xS (X i)), .ref (xE (X i)), .ref (xP (X i)), .int (nI (xK (X i))), .int (nI (xC (X i))), .int (nI (xT (X i))), va_rf (xX (X i))]), (xN (X i), zI G 4 (fun j => nI ((yN (X i)) j))), (xS (X i), zI G 4 (fun j => nI ((yS (X i)) j))), (ch, zI G 12 (fun j => nI (C j))), (xP (X i), zI G 256 (fun j => nI ((yP (X i)) j))), (pr, zL G 48 (fun j => lN (F j))), (fz, zO 1 [.ref g, .ref bn, .ref bl, .int (nI nf), .int (nI ca)]), (g, zO 2 [.ref av, .ref an, .int (nI n), .int st]), (av, zI G 12 (fun j => nI (V j))), (bl, zF G 13 fL), (xE (X i), zI G 256 (fun j => nI ((yE (X i)) j)))]) [6, 7, 8, 4, 10, 5, 0, 1, 2, 3, 9] (by decide) rfl).eq (ws' := [(xA (X i), zO 0 [.ref (xN (X i)), .ref (xS (X i)), .ref (xE (X i)), .ref (xP (X i)), .int (nI (xK (X i))), .int (nI (xC (X i))), .int (nI (xT (X i))), va_rf (xX (X i))]), (xN (X i), zI G 4 (fun j => nI ((yN (X i)) j))), (xS (X i), zI G 4 (fun j => nI ((yS (X i)) j))), (ch, zI G 12 (fun j => nI (C j))), (xP (X i), zI G 256 (fun j => nI ((yP (X i)) j))), (pr, zL G 48 (fun j => lN (F j)))] ++ ([(fz, zO 1 [.ref g, .ref bn, .ref bl, .int (nI nf), .int (nI ca)]), (g, zO 2 [.ref av, .ref an, .int (nI n), .int st]), (av, zI G 12 (fun j => nI (V j))), (bl, zF G 13 fL), (xE (X i), zI G 256 (fun j => nI ((yE (X i)) j)))] ++ poolx G X i 16)) rfl
        refine z_wV (wr := ([(fz, zO 1 [.ref g, .ref bn, .ref bl, .int (nI nf), .int (nI ca)]), (g, zO 2 [.ref av, .ref an, .int (nI n), .int st]), (av, zI G 12 (fun j => nI (V j))), (bl, zF G 13 fL), (xE (X i), zI G 256 (fun j => nI ((yE (X i)) j)))] ++ poolx G X i 16)) (As := [.ref pr, .int (nI fr), .int (nI (V a)), .ref ch]) (rest := []) Sf (c_Factor_multiply l G (xA (X i)) (xN (X i)) (xS (X i)) (xE (X i)) (xP (X i)) (xX (X i)) (xT (X i)) (xK (X i)) (xC (X i)) (yN (X i)) (yS (X i)) (yP (X i)) C F ch pr fr (V a) hfo.2.2.2.1 ⟨hK0 i (hsu i List.mem_cons_self), hfo.1⟩ hfo.2.1 hfr hfo.2.2.2.2 (hE0 i (hsu i List.mem_cons_self)) H.size) mv_Fs_56 ⟨rfl, rfl⟩ ⟨Nat.le_of_ble_eq_true rfl, Nat.le_of_ble_eq_true rfl⟩ w _ _ (zsplC [(xA (X i), zO 0 [.ref (xN (X i)), .ref (xS (X i)), .ref (xE (X i)), .ref (xP (X i)), .int (nI (xK (X i))), .int (nI (xC (X i))), .int (nI (xT (X i))), va_rf (xX (X i))]), (xN (X i), zI G 4 (fun j => nI ((yN (X i)) j))), (xS (X i), zI G 4 (fun j => nI ((yS (X i)) j))), (ch, zI G 12 (fun j => nI (C j))), (xP (X i), zI G 256 (fun j => nI ((yP (X i)) j))), (pr, zL G 48 (fun j => lN (F j)))] ([(fz, zO 1 [.ref g, .ref bn, .ref bl, .int (nI nf), .int (nI ca)]), (g, zO 2 [.ref av, .ref an, .int (nI n), .int st]), (av, zI G 12 (fun j => nI (V j))), (bl, zF G 13 fL), (xE (X i), zI G 256 (fun j => nI ((yE (X i)) j)))] ++ poolx G X i 16)) (zsplR [(xA (X i), zO 0 [.ref (xN (X i)), .ref (xS (X i)), .ref (xE (X i)), .ref (xP (X i)), .int (nI (xK (X i))), .int (nI (xC (X i))), .int (nI (xT (X i))), va_rf (xX (X i))]), (xN (X i), zI G 4 (fun j => nI ((yN (X i)) j))), (xS (X i), zI G 4 (fun j => nI ((yS (X i)) j))), (ch, zI G 12 (fun j => nI (C j))), (xP (X i), zI G 256 (fun j => nI ((yP (X i)) j))), (pr, zL G 48 (fun j => lN (F j)))] ([(fz, zO 1 [.ref g, .ref bn, .ref bl, .int (nI nf), .int (nI ca)]), (g, zO 2 [.ref av, .ref an, .int (nI n), .int st]), (av, zI G 12 (fun j => nI (V j))), (bl, zF G 13 fL), (xE (X i), zI G 256 (fun j => nI ((yE (X i)) j)))] ++ poolx G X i 16)) (znd1 _) (znd2 _ _) (zdis _ _) 0 rfl rfl rfl rfl hl.1 rfl (Nat.le_of_ble_eq_true rfl) dFs_multiplyLast_34 ⟨Nat.le_of_ble_eq_true rfl, Nat.le_of_ble_eq_true rfl⟩ (fun u1 H locs hu1 w => ?_)
        have w := (w.of_perm List.perm_append_comm).eq (ws' := ([(xA (X i), zO 0 [.ref (xN (X i)), .ref (xS (X i)), .ref (xE (X i)), .ref (xP (X i)), .int (nI (xK (X i))), .int (nI (xC (X i))), .int (nI (xT (X i))), va_rf (xX (X i))]), (xN (X i), zI G 4 (fun j => nI ((yN (X i)) j))), (xS (X i), zI G 4 (fun j => nI ((yS (X i)) j))), (ch, zI G 12 (fun j => nI (C j))), (xP (X i), zI G 256 (fun j => nI ((yP (X i)) j))), (pr, zL G 48 (fun j => lN ((mulF F (yP (X i)) fr (entF (yN (X i)) (yS (X i)) C (xK (X i))) ((yS (X i)) ((xK (X i)) - 1)) (V a)) j))), (fz, zO 1 [.ref g, .ref bn, .ref bl, .int (nI nf), .int (nI ca)]), (g, zO 2 [.ref av, .ref an, .int (nI n), .int st]), (av, zI G 12 (fun j => nI (V j))), (bl, zF G 13 fL), (xE (X i), zI G 256 (fun j => nI ((yE (X i)) j)))] ++ poolx G X i 16)) rfl
        refine W.eq (g2 := F0 m 37 ls []) rfl ?_
        have w := w.permT (ws' := [(fz, zO 1 [.ref g, .ref bn, .ref bl, .int (nI nf), .int (nI ca)]), (g, zO 2 [.ref av, .ref an, .int (nI n), .int st]), (av, zI G 12 (fun j => nI (V j))), (bl, zF G 13 fL), (ch, zI G 12 (fun j => nI (C j))), (pr, zL G 48 (fun j => lN ((mulF F (yP (X i)) fr (entF (yN (X i)) (yS (X i)) C (xK (X i))) ((yS (X i)) ((xK (X i)) - 1)) (V a)) j))), (xA (X i), zO 0 [.ref (xN (X i)), .ref (xS (X i)), .ref (xE (X i)), .ref (xP (X i)), .int (nI (xK (X i))), .int (nI (xC (X i))), .int (nI (xT (X i))), va_rf (xX (X i))]), (xN (X i), zI G 4 (fun j => nI ((yN (X i)) j))), (xS (X i), zI G 4 (fun j => nI ((yS (X i)) j))), (xE (X i), zI G 256 (fun j => nI ((yE (X i)) j))), (xP (X i), zI G 256 (fun j => nI ((yP (X i)) j)))]) [6, 7, 8, 9, 3, 5, 0, 1, 2, 10, 4] (by decide) rfl
        have w := (w.eq (ws' := [(fz, zO 1 [.ref g, .ref bn, .ref bl, .int (nI nf), .int (nI ca)]), (g, zO 2 [.ref av, .ref an, .int (nI n), .int st]), (av, zI G 12 (fun j => nI (V j))), (bl, zF G 13 fL), (ch, zI G 12 (fun j => nI (C j))), (pr, zL G 48 (fun j => lN ((mulF F (yP (X i)) fr (entF (yN (X i)) (yS (X i)) C (xK (X i))) ((yS (X i)) ((xK (X i)) - 1)) (V a)) j)))] ++ (fcl G (X i) ++ poolx G X i 16)) rfl).of_perm (pool_in [(fz, zO 1 [.ref g, .ref bn, .ref bl, .int (nI nf), .int (nI ca)]), (g, zO 2 [.ref av, .ref an, .int (nI n), .int st]), (av, zI G 12 (fun j => nI (V j))), (bl, zF G 13 fL), (ch, zI G 12 (fun j => nI (C j))), (pr, zL G 48 (fun j => lN ((mulF F (yP (X i)) fr (entF (yN (X i)) (yS (X i)) C (xK (X i))) ((yS (X i)) ((xK (X i)) - 1)) (V a)) j)))] hi).symm
        have w := (w.of_perm (pool_in [(fz, zO 1 [.ref g, .ref bn, .ref bl, .int (nI nf), .int (nI ca)]), (g, zO 2 [.ref av, .ref an, .int (nI n), .int st]), (av, zI G 12 (fun j => nI (V j))), (bl, zF G 13 fL), (ch, zI G 12 (fun j => nI (C j))), (pr, zL G 48 (fun j => lN ((mulF F (yP (X i)) fr (entF (yN (X i)) (yS (X i)) C (xK (X i))) ((yS (X i)) ((xK (X i)) - 1)) (V a)) j)))] hi)).eq (ws' := ([(fz, zO 1 [.ref g, .ref bn, .ref bl, .int (nI nf), .int (nI ca)]), (g, zO 2 [.ref av, .ref an, .int (nI n), .int st]), (av, zI G 12 (fun j => nI (V j))), (bl, zF G 13 fL), (ch, zI G 12 (fun j => nI (C j))), (pr, zL G 48 (fun j => lN ((mulF F (yP (X i)) fr (entF (yN (X i)) (yS (X i)) C (xK (X i))) ((yS (X i)) ((xK (X i)) - 1)) (V a)) j))), (xA (X i), zO 0 [.ref (xN (X i)), .ref (xS (X i)), .ref (xE (X i)), .ref (xP (X i)), .int (nI (xK (X i))), .int (nI (xC (X i))), .int (nI (xT (X i))), va_rf (xX (X i))]), (xN (X i), zI G 4 (fun j => nI ((yN (X i)) j))), (xS (X i), zI G 4 (fun j => nI ((yS (X i)) j))), (xE (X i), zI G 256 (fun j => nI ((yE (X i)) j))), (xP (X i), zI G 256 (fun j => nI ((yP (X i)) j)))] ++ poolx G X i 16)) rfl
        refine lv_aload hx hb dFs_multiplyLast_37 (lv_at hl 0 rfl) ?_
        refine gf_Fs_37 Sf w.1 6 rfl rfl dFs_multiplyLast_39 ?_
        rw [hnx]
        have w := (w.eq (ws' := [(fz, zO 1 [.ref g, .ref bn, .ref bl, .int (nI nf), .int (nI ca)]), (g, zO 2 [.ref av, .ref an, .int (nI n), .int st]), (av, zI G 12 (fun j => nI (V j))), (bl, zF G 13 fL), (ch, zI G 12 (fun j => nI (C j))), (pr, zL G 48 (fun j => lN ((mulF F (yP (X i)) fr (entF (yN (X i)) (yS (X i)) C (xK (X i))) ((yS (X i)) ((xK (X i)) - 1)) (V a)) j)))] ++ (fcl G (X i) ++ poolx G X i 16)) rfl).of_perm (pool_in [(fz, zO 1 [.ref g, .ref bn, .ref bl, .int (nI nf), .int (nI ca)]), (g, zO 2 [.ref av, .ref an, .int (nI n), .int st]), (av, zI G 12 (fun j => nI (V j))), (bl, zF G 13 fL), (ch, zI G 12 (fun j => nI (C j))), (pr, zL G 48 (fun j => lN ((mulF F (yP (X i)) fr (entF (yN (X i)) (yS (X i)) C (xK (X i))) ((yS (X i)) ((xK (X i)) - 1)) (V a)) j)))] hi).symm
        refine lv_astoreQ (lv' := [(6, va_rf (lkd X li)), (5, .int (nI (V a))), (0, .ref fz), (1, .int (nI a)), (2, .ref pr), (3, .int (nI fr)), (4, .ref ch)]) hx hb dFs_multiplyLast_42 hl (by decide) rfl (fun ls hl => ?_)
        refine lv_goto (tgt := 21) hx hb dFs_multiplyLast_44 (by decide) ?_
        refine ih21 li (mulF F (yP (X i)) fr (entF (yN (X i)) (yS (X i)) C (xK (X i))) ((yS (X i)) ((xK (X i)) - 1)) (V a)) ?_ ?_ ?_ ?_ _ _ w ls (lv_sub hl [0, 1, 2, 3, 4, 5, 6] rfl)
        · exact hli
        · exact fun j h => hsu j (List.mem_cons_of_mem _ h)
        · exact hF
        · simp only [List.length_cons] at hm21; omega
  refine L21 ((L.length) + 1) L Pr ?_ ?_ ?_ ?_ _ _ w ls (lv_sub hl [0, 1, 2, 3, 4, 5, 6] rfl)
  · exact hch
  · exact fun _ h => h
  · rfl
  · exact Nat.lt_succ_self _

def rm_Fs_productAt : Room := { frames := 2, cells := 0, slots := 0, locals := 62 }
set_option maxHeartbeats 4000000 in
set_option maxRecDepth 100000 in
theorem c_Fs_productAt (l : Launch) (G : zG) (fz g bn bl : Nat) (nf ca : Nat) (fB : Nat → Option Nat) (X : Nat → fR) (C : Nat → Nat) (ch : Nat) (hnf : nf ≤ 16) (hX : ∀ i, i < 16 → fOk (X i)) (hB : ∀ i, i < nf → fB i = some (xA (X i))) (hE0 : ∀ i, i < nf → xEn X C i < xC (X i)) : Met l yFs_productAt (.code yFs_productAt cFs_productAt 6 (some .long) :: zT) rm_Fs_productAt (zPr G [.ref fz, .ref ch] ([(fz, zO 1 [.ref g, .ref bn, .ref bl, .int (nI nf), .int (nI ca)]), (bn, zF G 16 fB), (ch, zI G 12 (fun j => nI (C j)))] ++ pool G X 16)) (k2_QcV (.long (lN (paP X C nf)))) 0 0 (fun _ => False) := by
  refine z_metRl (by decide) (Nat.le_of_ble_eq_true rfl) (fun p e s m args below meth c ls Q Sf r hl hret => ?_)
  have Sf : CallFix p m c cFs_productAt 6 s args zT RFs := Sf
  have hx := Sf.1
  have hb := Sf.2.1
  have hown := Sf.2.2.2.1
  have hts := Sf.2.2.2.2
  have hl : lv_has ls 6 [(0, .ref fz), (1, .ref ch)] := hl
  refine lv_lconst (v := lN 1) hx hb dFs_productAt_0 (by decide) ?_
  refine lv_lstore_n (lv' := [(2, .long (lN 1)), (0, .ref fz), (1, .ref ch)]) hx hb dFs_productAt_1 rfl hl (by decide) rfl (fun ls hl => ?_)
  refine lv_iconst (v := (nI 0)) hx hb dFs_productAt_2 (by decide) ?_
  refine lv_istore (lv' := [(4, .int (nI 0)), (2, .long (lN 1)), (0, .ref fz), (1, .ref ch)]) hx hb dFs_productAt_3 hl (by decide) rfl (fun ls hl => ?_)
  have L5 : ∀ (fu5 : Nat) (i acc : Nat), (i ≤ nf) → (acc = paP X C i) → (nf - i) < fu5 → ∀ (ls : Array Slot), lv_has ls 6 [(4, .int (nI i)), (2, .long (lN acc)), (0, .ref fz), (1, .ref ch)] → W p l e rm_Fs_productAt s m args below meth c s.heap [] 0 0 Q (F0 m 5 ls []) := by
    intro fu5
    induction fu5 with
    | zero =>
      intro i acc hi hac hm5
      exact absurd hm5 (Nat.not_lt_zero _)
    | succ fu5 ih5 =>
      intro i acc hi hac hm5 ls hl
      refine lv_iload hx hb dFs_productAt_5 (lv_at hl 0 rfl) ?_
      refine lv_aload_n hx hb dFs_productAt_7 rfl (lv_at hl 2 rfl) ?_
      refine gf_Fs_25 Sf r 0 rfl rfl dFs_productAt_8 ?_
      refine z_icmpge (tgt := 47) hx hb (by omega) (by omega) dFs_productAt_11 (by decide) (fun c11 => ?_) (fun c11 => ?_)
      · skip
        refine lv_lload_n hx hb dFs_productAt_47 rfl (lv_at hl 1 rfl) ?_
        exact hret _ _ _ dFs_productAt_48 (by rw [hac, show i = nf by omega])
      · skip
        have hi2 : i < nf := by omega
        refine lv_aload_n hx hb dFs_productAt_14 rfl (lv_at hl 2 rfl) ?_
        refine lv_iload hx hb dFs_productAt_15 (lv_at hl 0 rfl) ?_
        refine z_rV (As := [.int (nI i)]) (rest := []) Sf (c_Fs_numberedIn l G fz g bn bl nf ca fB i (by first | assumption | omega) (by first | assumption | omega)) mv_Fs_60 ⟨rfl, rfl⟩ ⟨Nat.le_of_ble_eq_true rfl, Nat.le_of_ble_eq_true rfl⟩ r [0, 1] rfl 0 rfl rfl rfl rfl hl.1 rfl (Nat.le_of_ble_eq_true rfl) dFs_productAt_17 ⟨Nat.le_of_ble_eq_true rfl, Nat.le_of_ble_eq_true rfl⟩ ?_
        rw [hB i hi2]
        refine W.eq (g2 := F0 m 20 ls [.ref (xA (X i))]) rfl ?_
        refine lv_astore (lv' := [(5, .ref (xA (X i))), (4, .int (nI i)), (2, .long (lN acc)), (0, .ref fz), (1, .ref ch)]) hx hb dFs_productAt_20 hl (by decide) rfl (fun ls hl => ?_)
        refine lv_lload_n hx hb dFs_productAt_22 rfl (lv_at hl 2 rfl) ?_
        refine lv_aload hx hb dFs_productAt_23 (lv_at hl 0 rfl) ?_
        refine lv_ifnonnull (tgt := 32) hx hb dFs_productAt_25 (by decide) ?_
        have hfo := hX i (by omega)
        have r : zr G s [(fz, zO 1 [.ref g, .ref bn, .ref bl, .int (nI nf), .int (nI ca)]), (bn, zF G 16 fB), (ch, zI G 12 (fun j => nI (C j))), (xA (X i), zO 0 [.ref (xN (X i)), .ref (xS (X i)), .ref (xE (X i)), .ref (xP (X i)), .int (nI (xK (X i))), .int (nI (xC (X i))), .int (nI (xT (X i))), va_rf (xX (X i))]), (xN (X i), zI G 4 (fun j => nI ((yN (X i)) j))), (xS (X i), zI G 4 (fun j => nI ((yS (X i)) j))), (xE (X i), zI G 256 (fun j => nI ((yE (X i)) j))), (xP (X i), zI G 256 (fun j => nI ((yP (X i)) j)))] s.heap := zr.of_sub r (pool_mem [(fz, zO 1 [.ref g, .ref bn, .ref bl, .int (nI nf), .int (nI ca)]), (bn, zF G 16 fB), (ch, zI G 12 (fun j => nI (C j)))] (show i < 16 by omega))
        refine lv_aload hx hb dFs_productAt_32 (lv_at hl 0 rfl) ?_
        refine lv_aload_n hx hb dFs_productAt_34 rfl (lv_at hl 4 rfl) ?_
        refine z_rV (As := [.ref ch]) (rest := [.long (lN acc)]) Sf (c_Factor_powerAt l G (xA (X i)) (xN (X i)) (xS (X i)) (xE (X i)) (xP (X i)) (xX (X i)) (xT (X i)) (xK (X i)) (xC (X i)) (yN (X i)) (yS (X i)) C (yP (X i)) ch hfo.1 hfo.2.1 hfo.2.2.2.1 (hE0 i hi2)) mv_Fs_64 ⟨rfl, rfl⟩ ⟨Nat.le_of_ble_eq_true rfl, Nat.le_of_ble_eq_true rfl⟩ r [3, 4, 5, 2, 7] rfl 3 rfl rfl rfl rfl hl.1 rfl (Nat.le_of_ble_eq_true rfl) dFs_productAt_35 ⟨Nat.le_of_ble_eq_true rfl, Nat.le_of_ble_eq_true rfl⟩ ?_
        refine lv_i2l (v := lN ((yP (X i)) (entF (yN (X i)) (yS (X i)) C (xK (X i))))) hx hb dFs_productAt_38 (nI_l (Nat.lt_of_le_of_lt (hfo.2.2.2.2 _) (by decide))) ?_
        refine z_lmulN hx hb dFs_productAt_39 ?_
        refine lv_lstore_n (lv' := [(2, .long (lN (acc * ((yP (X i)) (entF (yN (X i)) (yS (X i)) C (xK (X i))))))), (5, .ref (xA (X i))), (4, .int (nI i)), (0, .ref fz), (1, .ref ch)]) hx hb dFs_productAt_40 rfl hl (by decide) rfl (fun ls hl => ?_)
        refine z_iinc (d := 1) (lv' := [(4, .int (nI (i + 1))), (2, .long (lN (acc * ((yP (X i)) (entF (yN (X i)) (yS (X i)) C (xK (X i))))))), (5, .ref (xA (X i))), (0, .ref fz), (1, .ref ch)]) hx hb dFs_productAt_41 hl (k := 2) rfl (by decide) (by decide) rfl (fun ls hl => ?_)
        refine lv_goto (tgt := 5) hx hb dFs_productAt_44 (by decide) ?_
        refine ih5 (i + 1) (acc * ((yP (X i)) (entF (yN (X i)) (yS (X i)) C (xK (X i))))) ?_ ?_ ?_ ls (lv_sub hl [0, 1, 3, 4] rfl)
        · omega
        · rw [hac]; rfl
        · omega
  refine L5 ((nf - 0) + 1) 0 1 ?_ ?_ ?_ ls (lv_sub hl [0, 1, 2, 3] rfl)
  · omega
  · rfl
  · exact Nat.lt_succ_self _
