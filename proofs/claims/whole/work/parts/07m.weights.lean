theorem gaF_l {V Cg BS : Nat → Nat} {d a x : Nat} {t : Nat × Nat} (h : Cg a = 0) : gaF V Cg BS (d + 1) a x t = gaV (fun v => gaF V Cg BS d (a + 1) (x * V a + v)) (V a) t := by simp only [gaF, if_pos h]
theorem gaF_c {V Cg BS : Nat → Nat} {d a x : Nat} {t : Nat × Nat} (h : ¬ Cg a = 0) : gaF V Cg BS (d + 1) a x t = gaF V Cg BS d (a + 1) (x * V a + (Cg a - 1)) t := by simp only [gaF, if_neg h]
def rm_We_gather (d : Nat) : Room := { frames := 2 + d * 1, cells := 0, slots := 0, locals := 60 + d * 30 }
set_option maxHeartbeats 4000000 in
set_option maxRecDepth 100000 in
theorem c_We_gather0 (l : Launch) (G : zG) (w0 g fz ab ch pr bs rw0 rs : Nat) (rk sup sm gs gc kw : Nat) (av an n : Nat) (st : Int32) (V Cg BS : Nat → Nat) (f0 : Nat → Int32) (a x : Nat) (hn : n ≤ 12) (hBS : ∀ i, BS i ≤ 33232930569601) (hV0 : ∀ j, j < n → 0 < V j ∧ V j ≤ 4) (had : a + 0 = n) (hx0 : (x + 1) * prV V a 0 ≤ 65536) (hf : ∀ j, j < n → f0 j = mI (Cg j)) (hCg : ∀ j, j < n → Cg j ≤ V j) (sz : Nat) : Met l yWe_gather (.code yWe_gather cWe_gather 5 none :: zT) (rm_We_gather 0) (zPw G [.ref w0, .int (nI a), .int (nI x)] [(w0, zO 5 [.ref g, .ref fz, .ref ab, .ref ch, .ref pr, .ref bs, .ref rw0, .ref rs, .int (nI rk), .int (nI sup), .long (lN sm), .long (lN gs), .int (nI gc), .int (nI kw)]), (g, zO 2 [.ref av, .ref an, .int (nI n), .int st]), (av, zI G 12 (fun j => nI (V j))), (ch, zI G 12 f0), (bs, zL G 65536 (fun j => lN (BS j)))] sz) (zQ (S := Unit) G (fun u => none) (fun u => [(w0, zO 5 [.ref g, .ref fz, .ref ab, .ref ch, .ref pr, .ref bs, .ref rw0, .ref rs, .int (nI rk), .int (nI sup), .long (lN sm), .long (lN ((gaF V Cg BS 0 a x (gs, gc)).1)), .int (nI ((gaF V Cg BS 0 a x (gs, gc)).2)), .int (nI kw)]), (g, zO 2 [.ref av, .ref an, .int (nI n), .int st]), (av, zI G 12 (fun j => nI (V j))), (ch, zI G 12 f0), (bs, zL G 65536 (fun j => lN (BS j)))]) (va_A [(w0, zO 5 [.ref g, .ref fz, .ref ab, .ref ch, .ref pr, .ref bs, .ref rw0, .ref rs, .int (nI rk), .int (nI sup), .long (lN sm), .long (lN gs), .int (nI gc), .int (nI kw)]), (g, zO 2 [.ref av, .ref an, .int (nI n), .int st]), (av, zI G 12 (fun j => nI (V j))), (ch, zI G 12 f0), (bs, zL G 65536 (fun j => lN (BS j)))] sz) (fun u => True)) 0 0 (va_A [(w0, zO 5 [.ref g, .ref fz, .ref ab, .ref ch, .ref pr, .ref bs, .ref rw0, .ref rs, .int (nI rk), .int (nI sup), .long (lN sm), .long (lN gs), .int (nI gc), .int (nI kw)]), (g, zO 2 [.ref av, .ref an, .int (nI n), .int st]), (av, zI G 12 (fun j => nI (V j))), (ch, zI G 12 f0), (bs, zL G 65536 (fun j => lN (BS j)))] sz) := by
  refine z_metWv (by decide) (Nat.le_of_ble_eq_true rfl) (fun p e s m args below meth c ls A Q Sf hnm w hl hret => ?_)
  obtain ⟨H, hH⟩ : ∃ H, H = s.heap := ⟨_, rfl⟩
  obtain ⟨locs, hlo⟩ : ∃ L : List Loc, L = [] := ⟨_, rfl⟩
  rw [← hH, ← hlo] at w
  rw [← hH, ← hlo]
  clear hH hlo
  have Sf : CallFix p m c cWe_gather 5 s args zT RWe := Sf
  have hx := Sf.1
  have hb := Sf.2.1
  have hown := Sf.2.2.2.1
  have hts := Sf.2.2.2.2
  have hl : lv_has ls 5 [(0, .ref w0), (1, .int (nI a)), (2, .int (nI x))] := hl
  have hxs := prV_0 hx0
  have hb1 := hBS x
  refine lv_iload_n hx hb dWe_gather_0 rfl (lv_at hl 1 rfl) ?_
  refine lv_aload_n hx hb dWe_gather_1 rfl (lv_at hl 0 rfl) ?_
  refine gf_We_32 Sf w.1 0 rfl rfl dWe_gather_2 ?_
  refine gf_We_50 Sf w.1 1 rfl rfl dWe_gather_5 ?_
  refine z_icmplt (tgt := 57) hx hb (by omega) (by omega) dWe_gather_8 (by decide) (fun c8 => ?_) (fun c8 => ?_)
  · skip
    exact absurd c8 (by omega)
  · skip
    refine lv_iload_n hx hb dWe_gather_11 rfl (lv_at hl 2 rfl) ?_
    refine lv_aload_n hx hb dWe_gather_12 rfl (lv_at hl 0 rfl) ?_
    refine gf_We_23 Sf w.1 0 rfl rfl dWe_gather_13 ?_
    refine z_llen hx hb w.1 4 rfl dWe_gather_16 ?_
    refine z_icmpge (tgt := 56) hx hb (by omega) (by omega) dWe_gather_17 (by decide) (fun c17 => ?_) (fun c17 => ?_)
    · skip
      exact absurd c17 (by omega)
    · skip
      refine lv_aload_n hx hb dWe_gather_20 rfl (lv_at hl 0 rfl) ?_
      refine gf_We_23 Sf w.1 0 rfl rfl dWe_gather_21 ?_
      refine lv_iload_n hx hb dWe_gather_24 rfl (lv_at hl 2 rfl) ?_
      refine z_lald hx hb w.1 4 (k := x) rfl (by omega) (by omega) dWe_gather_25 ?_
      refine lv_lconst (v := lN 0) hx hb dWe_gather_26 (by decide) ?_
      refine W.lcmp hx hb dWe_gather_27 ?_
      refine z_lcleN (tgt := 56) hx hb (by omega) (by omega) dWe_gather_28 (by decide) (fun c28 => ?_) (fun c28 => ?_)
      · skip
        exact hret _ _ _ _ () _ w (by first | (unfold gaF; rw [if_pos (by omega)]; done) | (unfold gaF; rw [if_neg (by omega)]; done)) (trivial) dWe_gather_56 rfl
      · skip
        refine lv_aload_n hx hb dWe_gather_31 rfl (lv_at hl 0 rfl) ?_
        refine lv_dup hx hb dWe_gather_32 rfl ?_
        refine gf_We_112 Sf w.1 0 rfl rfl dWe_gather_33 ?_
        refine lv_aload_n hx hb dWe_gather_36 rfl (lv_at hl 0 rfl) ?_
        refine gf_We_23 Sf w.1 0 rfl rfl dWe_gather_37 ?_
        refine lv_iload_n hx hb dWe_gather_40 rfl (lv_at hl 2 rfl) ?_
        refine z_lald hx hb w.1 4 (k := x) rfl (by omega) (by omega) dWe_gather_41 ?_
        refine z_laddN hx hb dWe_gather_42 ?_
        refine pf_We_112 Sf w 0 rfl rfl rfl (Nat.le_of_ble_eq_true rfl) (ws' := [(w0, zO 5 [.ref g, .ref fz, .ref ab, .ref ch, .ref pr, .ref bs, .ref rw0, .ref rs, .int (nI rk), .int (nI sup), .long (lN sm), .long (lN (gs + (BS x))), .int (nI gc), .int (nI kw)]), (g, zO 2 [.ref av, .ref an, .int (nI n), .int st]), (av, zI G 12 (fun j => nI (V j))), (ch, zI G 12 f0), (bs, zL G 65536 (fun j => lN (BS j)))]) rfl dWe_gather_43 (fun H locs w => ?_)
        refine lv_aload_n hx hb dWe_gather_46 rfl (lv_at hl 0 rfl) ?_
        refine lv_dup hx hb dWe_gather_47 rfl ?_
        refine gf_We_115 Sf w.1 0 rfl rfl dWe_gather_48 ?_
        refine lv_iconst (v := (nI 1)) hx hb dWe_gather_51 (by decide) ?_
        refine z_addN hx hb dWe_gather_52 ?_
        refine pf_We_115 Sf w 0 rfl rfl rfl (Nat.le_of_ble_eq_true rfl) (ws' := [(w0, zO 5 [.ref g, .ref fz, .ref ab, .ref ch, .ref pr, .ref bs, .ref rw0, .ref rs, .int (nI rk), .int (nI sup), .long (lN sm), .long (lN (gs + (BS x))), .int (nI (gc + 1)), .int (nI kw)]), (g, zO 2 [.ref av, .ref an, .int (nI n), .int st]), (av, zI G 12 (fun j => nI (V j))), (ch, zI G 12 f0), (bs, zL G 65536 (fun j => lN (BS j)))]) rfl dWe_gather_53 (fun H locs w => ?_)
        exact hret _ _ _ _ () _ w (by first | (unfold gaF; rw [if_pos (by omega)]; done) | (unfold gaF; rw [if_neg (by omega)]; done)) (trivial) dWe_gather_56 rfl

set_option maxHeartbeats 4000000 in
set_option maxRecDepth 100000 in
theorem c_We_gatherS (d : Nat) (ih : ∀ (l : Launch) (G : zG) (w0 g fz ab ch pr bs rw0 rs : Nat) (rk sup sm gs gc kw : Nat) (av an n : Nat) (st : Int32) (V Cg BS : Nat → Nat) (f0 : Nat → Int32) (a x : Nat) (hn : n ≤ 12) (hBS : ∀ i, BS i ≤ 33232930569601) (hV0 : ∀ j, j < n → 0 < V j ∧ V j ≤ 4) (had : a + d = n) (hx0 : (x + 1) * prV V a d ≤ 65536) (hf : ∀ j, j < n → f0 j = mI (Cg j)) (hCg : ∀ j, j < n → Cg j ≤ V j) (sz : Nat), Met l yWe_gather (.code yWe_gather cWe_gather 5 none :: zT) (rm_We_gather d) (zPw G [.ref w0, .int (nI a), .int (nI x)] [(w0, zO 5 [.ref g, .ref fz, .ref ab, .ref ch, .ref pr, .ref bs, .ref rw0, .ref rs, .int (nI rk), .int (nI sup), .long (lN sm), .long (lN gs), .int (nI gc), .int (nI kw)]), (g, zO 2 [.ref av, .ref an, .int (nI n), .int st]), (av, zI G 12 (fun j => nI (V j))), (ch, zI G 12 f0), (bs, zL G 65536 (fun j => lN (BS j)))] sz) (zQ (S := Unit) G (fun u => none) (fun u => [(w0, zO 5 [.ref g, .ref fz, .ref ab, .ref ch, .ref pr, .ref bs, .ref rw0, .ref rs, .int (nI rk), .int (nI sup), .long (lN sm), .long (lN ((gaF V Cg BS d a x (gs, gc)).1)), .int (nI ((gaF V Cg BS d a x (gs, gc)).2)), .int (nI kw)]), (g, zO 2 [.ref av, .ref an, .int (nI n), .int st]), (av, zI G 12 (fun j => nI (V j))), (ch, zI G 12 f0), (bs, zL G 65536 (fun j => lN (BS j)))]) (va_A [(w0, zO 5 [.ref g, .ref fz, .ref ab, .ref ch, .ref pr, .ref bs, .ref rw0, .ref rs, .int (nI rk), .int (nI sup), .long (lN sm), .long (lN gs), .int (nI gc), .int (nI kw)]), (g, zO 2 [.ref av, .ref an, .int (nI n), .int st]), (av, zI G 12 (fun j => nI (V j))), (ch, zI G 12 f0), (bs, zL G 65536 (fun j => lN (BS j)))] sz) (fun u => True)) 0 0 (va_A [(w0, zO 5 [.ref g, .ref fz, .ref ab, .ref ch, .ref pr, .ref bs, .ref rw0, .ref rs, .int (nI rk), .int (nI sup), .long (lN sm), .long (lN gs), .int (nI gc), .int (nI kw)]), (g, zO 2 [.ref av, .ref an, .int (nI n), .int st]), (av, zI G 12 (fun j => nI (V j))), (ch, zI G 12 f0), (bs, zL G 65536 (fun j => lN (BS j)))] sz)) (l : Launch) (G : zG) (w0 g fz ab ch pr bs rw0 rs : Nat) (rk sup sm gs gc kw : Nat) (av an n : Nat) (st : Int32) (V Cg BS : Nat → Nat) (f0 : Nat → Int32) (a x : Nat) (hn : n ≤ 12) (hBS : ∀ i, BS i ≤ 33232930569601) (hV0 : ∀ j, j < n → 0 < V j ∧ V j ≤ 4) (had : a + (d + 1) = n) (hx0 : (x + 1) * prV V a (d + 1) ≤ 65536) (hf : ∀ j, j < n → f0 j = mI (Cg j)) (hCg : ∀ j, j < n → Cg j ≤ V j) (sz : Nat) : Met l yWe_gather (.code yWe_gather cWe_gather 5 none :: zT) (rm_We_gather (d + 1)) (zPw G [.ref w0, .int (nI a), .int (nI x)] [(w0, zO 5 [.ref g, .ref fz, .ref ab, .ref ch, .ref pr, .ref bs, .ref rw0, .ref rs, .int (nI rk), .int (nI sup), .long (lN sm), .long (lN gs), .int (nI gc), .int (nI kw)]), (g, zO 2 [.ref av, .ref an, .int (nI n), .int st]), (av, zI G 12 (fun j => nI (V j))), (ch, zI G 12 f0), (bs, zL G 65536 (fun j => lN (BS j)))] sz) (zQ (S := Unit) G (fun u => none) (fun u => [(w0, zO 5 [.ref g, .ref fz, .ref ab, .ref ch, .ref pr, .ref bs, .ref rw0, .ref rs, .int (nI rk), .int (nI sup), .long (lN sm), .long (lN ((gaF V Cg BS (d + 1) a x (gs, gc)).1)), .int (nI ((gaF V Cg BS (d + 1) a x (gs, gc)).2)), .int (nI kw)]), (g, zO 2 [.ref av, .ref an, .int (nI n), .int st]), (av, zI G 12 (fun j => nI (V j))), (ch, zI G 12 f0), (bs, zL G 65536 (fun j => lN (BS j)))]) (va_A [(w0, zO 5 [.ref g, .ref fz, .ref ab, .ref ch, .ref pr, .ref bs, .ref rw0, .ref rs, .int (nI rk), .int (nI sup), .long (lN sm), .long (lN gs), .int (nI gc), .int (nI kw)]), (g, zO 2 [.ref av, .ref an, .int (nI n), .int st]), (av, zI G 12 (fun j => nI (V j))), (ch, zI G 12 f0), (bs, zL G 65536 (fun j => lN (BS j)))] sz) (fun u => True)) 0 0 (va_A [(w0, zO 5 [.ref g, .ref fz, .ref ab, .ref ch, .ref pr, .ref bs, .ref rw0, .ref rs, .int (nI rk), .int (nI sup), .long (lN sm), .long (lN gs), .int (nI gc), .int (nI kw)]), (g, zO 2 [.ref av, .ref an, .int (nI n), .int st]), (av, zI G 12 (fun j => nI (V j))), (ch, zI G 12 f0), (bs, zL G 65536 (fun j => lN (BS j)))] sz) := by
  refine z_metWv (by decide) (Nat.le_of_ble_eq_true rfl) (fun p e s m args below meth c ls A Q Sf hnm w hl hret => ?_)
  obtain ⟨H, hH⟩ : ∃ H, H = s.heap := ⟨_, rfl⟩
  obtain ⟨locs, hlo⟩ : ∃ L : List Loc, L = [] := ⟨_, rfl⟩
  rw [← hH, ← hlo] at w
  rw [← hH, ← hlo]
  clear hH hlo
  have Sf : CallFix p m c cWe_gather 5 s args zT RWe := Sf
  have hx := Sf.1
  have hb := Sf.2.1
  have hown := Sf.2.2.2.1
  have hts := Sf.2.2.2.2
  have hl : lv_has ls 5 [(0, .ref w0), (1, .int (nI a)), (2, .int (nI x))] := hl
  have hxs := prV_x (fun j h1 h2 => (hV0 j (by omega)).1) hx0
  have hca := hCg a (by omega)
  have hva := hV0 a (by omega)
  refine lv_iload_n hx hb dWe_gather_0 rfl (lv_at hl 1 rfl) ?_
  refine lv_aload_n hx hb dWe_gather_1 rfl (lv_at hl 0 rfl) ?_
  refine gf_We_32 Sf w.1 0 rfl rfl dWe_gather_2 ?_
  refine gf_We_50 Sf w.1 1 rfl rfl dWe_gather_5 ?_
  refine z_icmplt (tgt := 57) hx hb (by omega) (by omega) dWe_gather_8 (by decide) (fun c8 => ?_) (fun c8 => ?_)
  · skip
    refine lv_aload_n hx hb dWe_gather_57 rfl (lv_at hl 0 rfl) ?_
    refine gf_We_32 Sf w.1 0 rfl rfl dWe_gather_58 ?_
    refine gf_We_91 Sf w.1 1 rfl rfl dWe_gather_61 ?_
    refine lv_iload_n hx hb dWe_gather_64 rfl (lv_at hl 1 rfl) ?_
    refine z_iald hx hb w.1 2 (k := a) rfl (by omega) (by omega) dWe_gather_65 ?_
    refine lv_istore_n (lv' := [(3, .int (nI (V a))), (0, .ref w0), (1, .int (nI a)), (2, .int (nI x))]) hx hb dWe_gather_66 rfl hl (by decide) rfl (fun ls hl => ?_)
    refine lv_aload_n hx hb dWe_gather_67 rfl (lv_at hl 1 rfl) ?_
    refine gf_We_15 Sf w.1 0 rfl rfl dWe_gather_68 ?_
    refine lv_iload_n hx hb dWe_gather_71 rfl (lv_at hl 2 rfl) ?_
    refine z_iald hx hb w.1 3 (k := a) rfl (by omega) (by omega) dWe_gather_72 ?_
    rw [hf a (by omega)]
    refine lv_iconst (v := (mI 0)) hx hb dWe_gather_73 (by decide) ?_
    refine z_icmpeqMM (tgt := 95) hx hb (by omega) (by omega) dWe_gather_74 (by decide) (fun c74 => ?_) (fun c74 => ?_)
    · skip
      refine lv_iconst (v := (nI 0)) hx hb dWe_gather_95 (by decide) ?_
      refine lv_istore (lv' := [(4, .int (nI 0)), (3, .int (nI (V a))), (0, .ref w0), (1, .int (nI a)), (2, .int (nI x))]) hx hb dWe_gather_96 hl (by decide) rfl (fun ls hl => ?_)
      have L98 : ∀ (fu98 : Nat) (v g1 g2 : Nat), (v ≤ V a) → ((g1, g2) = gaV (fun v => gaF V Cg BS d (a + 1) (x * V a + v)) v (gs, gc)) → (V a - v) < fu98 → ∀ (H : Heap) (locs : List Loc), zw G A s [(w0, zO 5 [.ref g, .ref fz, .ref ab, .ref ch, .ref pr, .ref bs, .ref rw0, .ref rs, .int (nI rk), .int (nI sup), .long (lN sm), .long (lN g1), .int (nI g2), .int (nI kw)]), (g, zO 2 [.ref av, .ref an, .int (nI n), .int st]), (av, zI G 12 (fun j => nI (V j))), (ch, zI G 12 f0), (bs, zL G 65536 (fun j => lN (BS j)))] H locs → ∀ (ls : Array Slot), lv_has ls 5 [(4, .int (nI v)), (3, .int (nI (V a))), (0, .ref w0), (1, .int (nI a)), (2, .int (nI x))] → W p l e (rm_We_gather (d + 1)) s m args below meth c H locs 0 0 Q (F0 m 98 ls []) := by
        intro fu98
        induction fu98 with
        | zero =>
          intro v g1 g2 hv ht hm98
          exact absurd hm98 (Nat.not_lt_zero _)
        | succ fu98 ih98 =>
          intro v g1 g2 hv ht hm98 H locs w ls hl
          refine lv_iload hx hb dWe_gather_98 (lv_at hl 0 rfl) ?_
          refine lv_iload_n hx hb dWe_gather_100 rfl (lv_at hl 1 rfl) ?_
          refine z_icmpge (tgt := 123) hx hb (by omega) (by omega) dWe_gather_101 (by decide) (fun c101 => ?_) (fun c101 => ?_)
          · skip
            exact hret _ _ _ _ () _ w (by rw [show v = V a by omega] at ht; rw [gaF_l c74, ← ht]) (trivial) dWe_gather_123 rfl
          · skip
            refine lv_aload_n hx hb dWe_gather_104 rfl (lv_at hl 2 rfl) ?_
            refine lv_iload_n hx hb dWe_gather_105 rfl (lv_at hl 3 rfl) ?_
            refine lv_iconst (v := (nI 1)) hx hb dWe_gather_106 (by decide) ?_
            refine z_addN hx hb dWe_gather_107 ?_
            refine lv_iload_n hx hb dWe_gather_108 rfl (lv_at hl 4 rfl) ?_
            refine lv_iload_n hx hb dWe_gather_109 rfl (lv_at hl 1 rfl) ?_
            refine z_mulN hx hb dWe_gather_110 ?_
            refine lv_iload hx hb dWe_gather_111 (lv_at hl 0 rfl) ?_
            refine z_addN hx hb dWe_gather_113 ?_
            refine z_wV (wr := []) (As := [.int (nI (a + 1)), .int (nI ((x * (V a)) + v))]) (rest := []) Sf (ih l G w0 g fz ab ch pr bs rw0 rs rk sup sm g1 g2 kw av an n st V _ BS f0 (a + 1) ((x * (V a)) + v) (by first | assumption | omega) (by first | assumption | omega) (by first | assumption | omega) (by first | assumption | omega) (prV_in hx0 (by omega)) (by first | assumption | omega) (by first | assumption | omega) H.size) mv_We_118 ⟨rfl, rfl⟩ ⟨by first | exact Nat.le_of_ble_eq_true rfl | (simp only [rm_We_gather]; omega), by first | exact Nat.le_of_ble_eq_true rfl | (simp only [rm_We_gather]; omega)⟩ w [0, 1, 2, 3, 4] [] rfl rfl (by decide) (by decide) (by decide) 0 rfl rfl rfl rfl hl.1 rfl (Nat.le_of_ble_eq_true rfl) dWe_gather_114 ⟨Nat.le_of_ble_eq_true rfl, Nat.le_of_ble_eq_true rfl⟩ (fun u1 H locs hu1 w => ?_)
            have w := w.eq (ws' := [(w0, zO 5 [.ref g, .ref fz, .ref ab, .ref ch, .ref pr, .ref bs, .ref rw0, .ref rs, .int (nI rk), .int (nI sup), .long (lN sm), .long (lN ((gaF V Cg BS d (a + 1) ((x * (V a)) + v) (g1, g2)).1)), .int (nI ((gaF V Cg BS d (a + 1) ((x * (V a)) + v) (g1, g2)).2)), .int (nI kw)]), (g, zO 2 [.ref av, .ref an, .int (nI n), .int st]), (av, zI G 12 (fun j => nI (V j))), (ch, zI G 12 f0), (bs, zL G 65536 (fun j => lN (BS j)))]) rfl
            refine W.eq (g2 := F0 m 117 ls []) rfl ?_
            refine z_iinc (d := 1) (lv' := [(4, .int (nI (v + 1))), (3, .int (nI (V a))), (0, .ref w0), (1, .int (nI a)), (2, .int (nI x))]) hx hb dWe_gather_117 hl (k := 0) rfl (by decide) (by decide) rfl (fun ls hl => ?_)
            refine lv_goto (tgt := 98) hx hb dWe_gather_120 (by decide) ?_
            refine ih98 (v + 1) ((gaF V Cg BS d (a + 1) ((x * (V a)) + v) (g1, g2)).1) ((gaF V Cg BS d (a + 1) ((x * (V a)) + v) (g1, g2)).2) ?_ ?_ ?_ _ _ w ls (lv_sub hl [0, 1, 2, 3, 4] rfl)
            · omega
            · simp only [gaV]; rw [← ht]
            · omega
      refine L98 ((V a - 0) + 1) 0 gs gc ?_ ?_ ?_ _ _ w ls (lv_sub hl [0, 1, 2, 3, 4] rfl)
      · omega
      · rfl
      · exact Nat.lt_succ_self _
    · skip
      refine lv_aload_n hx hb dWe_gather_77 rfl (lv_at hl 1 rfl) ?_
      refine lv_iload_n hx hb dWe_gather_78 rfl (lv_at hl 2 rfl) ?_
      refine lv_iconst (v := (nI 1)) hx hb dWe_gather_79 (by decide) ?_
      refine z_addN hx hb dWe_gather_80 ?_
      refine lv_iload_n hx hb dWe_gather_81 rfl (lv_at hl 3 rfl) ?_
      refine lv_iload_n hx hb dWe_gather_82 rfl (lv_at hl 0 rfl) ?_
      refine z_mulN hx hb dWe_gather_83 ?_
      refine lv_aload_n hx hb dWe_gather_84 rfl (lv_at hl 1 rfl) ?_
      refine gf_We_15 Sf w.1 0 rfl rfl dWe_gather_85 ?_
      refine lv_iload_n hx hb dWe_gather_88 rfl (lv_at hl 2 rfl) ?_
      refine z_iald hx hb w.1 3 (k := a) rfl (by omega) (by omega) dWe_gather_89 ?_
      rw [hf a (by omega), mI_p c74]
      refine z_addN hx hb dWe_gather_90 ?_
      refine z_wV (wr := []) (As := [.int (nI (a + 1)), .int (nI ((x * (V a)) + (Cg a - 1)))]) (rest := []) Sf (ih l G w0 g fz ab ch pr bs rw0 rs rk sup sm gs gc kw av an n st V _ BS f0 (a + 1) ((x * (V a)) + (Cg a - 1)) (by first | assumption | omega) (by first | assumption | omega) (by first | assumption | omega) (by first | assumption | omega) (prV_in hx0 (by omega)) (by first | assumption | omega) (by first | assumption | omega) H.size) mv_We_118 ⟨rfl, rfl⟩ ⟨by first | exact Nat.le_of_ble_eq_true rfl | (simp only [rm_We_gather]; omega), by first | exact Nat.le_of_ble_eq_true rfl | (simp only [rm_We_gather]; omega)⟩ w [0, 1, 2, 3, 4] [] rfl rfl (by decide) (by decide) (by decide) 0 rfl rfl rfl rfl hl.1 rfl (Nat.le_of_ble_eq_true rfl) dWe_gather_91 ⟨Nat.le_of_ble_eq_true rfl, Nat.le_of_ble_eq_true rfl⟩ (fun u2 H locs hu2 w => ?_)
      have w := w.eq (ws' := [(w0, zO 5 [.ref g, .ref fz, .ref ab, .ref ch, .ref pr, .ref bs, .ref rw0, .ref rs, .int (nI rk), .int (nI sup), .long (lN sm), .long (lN ((gaF V Cg BS d (a + 1) ((x * (V a)) + (Cg a - 1)) (gs, gc)).1)), .int (nI ((gaF V Cg BS d (a + 1) ((x * (V a)) + (Cg a - 1)) (gs, gc)).2)), .int (nI kw)]), (g, zO 2 [.ref av, .ref an, .int (nI n), .int st]), (av, zI G 12 (fun j => nI (V j))), (ch, zI G 12 f0), (bs, zL G 65536 (fun j => lN (BS j)))]) rfl
      refine W.eq (g2 := F0 m 94 ls []) rfl ?_
      exact hret _ _ _ _ () _ w (by rw [gaF_c c74]) (trivial) dWe_gather_94 rfl
  · skip
    exact absurd c8 (by omega)

set_option maxRecDepth 100000 in
theorem c_We_gather (d : Nat) : ∀ (l : Launch) (G : zG) (w0 g fz ab ch pr bs rw0 rs : Nat) (rk sup sm gs gc kw : Nat) (av an n : Nat) (st : Int32) (V Cg BS : Nat → Nat) (f0 : Nat → Int32) (a x : Nat) (hn : n ≤ 12) (hBS : ∀ i, BS i ≤ 33232930569601) (hV0 : ∀ j, j < n → 0 < V j ∧ V j ≤ 4) (had : a + d = n) (hx0 : (x + 1) * prV V a d ≤ 65536) (hf : ∀ j, j < n → f0 j = mI (Cg j)) (hCg : ∀ j, j < n → Cg j ≤ V j) (sz : Nat), Met l yWe_gather (.code yWe_gather cWe_gather 5 none :: zT) (rm_We_gather d) (zPw G [.ref w0, .int (nI a), .int (nI x)] [(w0, zO 5 [.ref g, .ref fz, .ref ab, .ref ch, .ref pr, .ref bs, .ref rw0, .ref rs, .int (nI rk), .int (nI sup), .long (lN sm), .long (lN gs), .int (nI gc), .int (nI kw)]), (g, zO 2 [.ref av, .ref an, .int (nI n), .int st]), (av, zI G 12 (fun j => nI (V j))), (ch, zI G 12 f0), (bs, zL G 65536 (fun j => lN (BS j)))] sz) (zQ (S := Unit) G (fun u => none) (fun u => [(w0, zO 5 [.ref g, .ref fz, .ref ab, .ref ch, .ref pr, .ref bs, .ref rw0, .ref rs, .int (nI rk), .int (nI sup), .long (lN sm), .long (lN ((gaF V Cg BS d a x (gs, gc)).1)), .int (nI ((gaF V Cg BS d a x (gs, gc)).2)), .int (nI kw)]), (g, zO 2 [.ref av, .ref an, .int (nI n), .int st]), (av, zI G 12 (fun j => nI (V j))), (ch, zI G 12 f0), (bs, zL G 65536 (fun j => lN (BS j)))]) (va_A [(w0, zO 5 [.ref g, .ref fz, .ref ab, .ref ch, .ref pr, .ref bs, .ref rw0, .ref rs, .int (nI rk), .int (nI sup), .long (lN sm), .long (lN gs), .int (nI gc), .int (nI kw)]), (g, zO 2 [.ref av, .ref an, .int (nI n), .int st]), (av, zI G 12 (fun j => nI (V j))), (ch, zI G 12 f0), (bs, zL G 65536 (fun j => lN (BS j)))] sz) (fun u => True)) 0 0 (va_A [(w0, zO 5 [.ref g, .ref fz, .ref ab, .ref ch, .ref pr, .ref bs, .ref rw0, .ref rs, .int (nI rk), .int (nI sup), .long (lN sm), .long (lN gs), .int (nI gc), .int (nI kw)]), (g, zO 2 [.ref av, .ref an, .int (nI n), .int st]), (av, zI G 12 (fun j => nI (V j))), (ch, zI G 12 f0), (bs, zL G 65536 (fun j => lN (BS j)))] sz) := by
  induction d with
  | zero => exact c_We_gather0
  | succ d ih => exact c_We_gatherS d ih