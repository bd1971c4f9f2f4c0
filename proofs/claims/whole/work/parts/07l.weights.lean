def rm_We_forget : Room := { frames := 0, cells := 0, slots := 0, locals := 0 }
set_option maxHeartbeats 4000000 in
set_option maxRecDepth 100000 in
theorem c_We_forget (l : Launch) (G : zG) (w0 g fz ab ch pr bs rw0 rs : Nat) (rk sup sm gs gc kw : Nat)  (sz : Nat) : Met l yWe_forget (.code yWe_forget cWe_forget 1 none :: zT) rm_We_forget (zPw G [.ref w0] [(w0, zO 5 [.ref g, .ref fz, .ref ab, .ref ch, .ref pr, .ref bs, .ref rw0, .ref rs, .int (nI rk), .int (nI sup), .long (lN sm), .long (lN gs), .int (nI gc), .int (nI kw)])] sz) (zQ (S := Unit) G (fun u => none) (fun u => [(w0, zO 5 [.ref g, .ref fz, .ref ab, .ref ch, .ref pr, .ref bs, .ref rw0, .ref rs, .int (nI rk), .int (nI sup), .long (lN sm), .long (lN gs), .int (nI gc), .int (nI 0)])]) (va_A [(w0, zO 5 [.ref g, .ref fz, .ref ab, .ref ch, .ref pr, .ref bs, .ref rw0, .ref rs, .int (nI rk), .int (nI sup), .long (lN sm), .long (lN gs), .int (nI gc), .int (nI kw)])] sz) (fun u => True)) 0 0 (va_A [(w0, zO 5 [.ref g, .ref fz, .ref ab, .ref ch, .ref pr, .ref bs, .ref rw0, .ref rs, .int (nI rk), .int (nI sup), .long (lN sm), .long (lN gs), .int (nI gc), .int (nI kw)])] sz) := by
  refine z_metWv (by decide) (Nat.le_of_ble_eq_true rfl) (fun p e s m args below meth c ls A Q Sf hnm w hl hret => ?_)
  obtain ⟨H, hH⟩ : ∃ H, H = s.heap := ⟨_, rfl⟩
  obtain ⟨locs, hlo⟩ : ∃ L : List Loc, L = [] := ⟨_, rfl⟩
  rw [← hH, ← hlo] at w
  rw [← hH, ← hlo]
  clear hH hlo
  have Sf : CallFix p m c cWe_forget 1 s args zT RWe := Sf
  have hx := Sf.1
  have hb := Sf.2.1
  have hown := Sf.2.2.2.1
  have hts := Sf.2.2.2.2
  have hl : lv_has ls 1 [(0, .ref w0)] := hl
  refine lv_aload_n hx hb dWe_forget_0 rfl (lv_at hl 0 rfl) ?_
  refine lv_iconst (v := (nI 0)) hx hb dWe_forget_1 (by decide) ?_
  refine pf_We_46 Sf w 0 rfl rfl rfl (Nat.le_of_ble_eq_true rfl) (ws' := [(w0, zO 5 [.ref g, .ref fz, .ref ab, .ref ch, .ref pr, .ref bs, .ref rw0, .ref rs, .int (nI rk), .int (nI sup), .long (lN sm), .long (lN gs), .int (nI gc), .int (nI 0)])]) rfl dWe_forget_2 (fun H locs w => ?_)
  exact hret _ _ _ _ () _ w (rfl) (trivial) dWe_forget_5 rfl

def rm_We_insertRank : Room := { frames := 1, cells := 0, slots := 0, locals := 40 }
set_option maxHeartbeats 4000000 in
set_option maxRecDepth 100000 in
theorem c_We_insertRank (l : Launch) (G : zG) (w0 g fz ab ch pr bs rw0 rs : Nat) (rk sup sm gs gc kw : Nat) (RW RS : Nat → Nat) (x wq : Nat) (hrk : rk ≤ 24) (hRW : ∀ i, RW i ≤ 33232930569601) (hw : wq ≤ 33232930569601) (sz : Nat) : Met l yWe_insertRank (.code yWe_insertRank cWe_insertRank 5 none :: zT) rm_We_insertRank (zPw G [.ref w0, .int (nI x), .long (lN wq)] [(w0, zO 5 [.ref g, .ref fz, .ref ab, .ref ch, .ref pr, .ref bs, .ref rw0, .ref rs, .int (nI rk), .int (nI sup), .long (lN sm), .long (lN gs), .int (nI gc), .int (nI kw)]), (rw0, zL G 24 (fun j => lN (RW j))), (rs, zI G 24 (fun j => nI (RS j)))] sz) (zQ (S := Unit) G (fun u => none) (fun u => [(w0, zO 5 [.ref g, .ref fz, .ref ab, .ref ch, .ref pr, .ref bs, .ref rw0, .ref rs, .int (nI ((irZ RW RS rk x wq).2.2)), .int (nI sup), .long (lN sm), .long (lN gs), .int (nI gc), .int (nI kw)]), (rw0, zL G 24 (fun j => lN (((irZ RW RS rk x wq).1) j))), (rs, zI G 24 (fun j => nI (((irZ RW RS rk x wq).2.1) j)))]) (va_A [(w0, zO 5 [.ref g, .ref fz, .ref ab, .ref ch, .ref pr, .ref bs, .ref rw0, .ref rs, .int (nI rk), .int (nI sup), .long (lN sm), .long (lN gs), .int (nI gc), .int (nI kw)]), (rw0, zL G 24 (fun j => lN (RW j))), (rs, zI G 24 (fun j => nI (RS j)))] sz) (fun u => True)) 0 0 (va_A [(w0, zO 5 [.ref g, .ref fz, .ref ab, .ref ch, .ref pr, .ref bs, .ref rw0, .ref rs, .int (nI rk), .int (nI sup), .long (lN sm), .long (lN gs), .int (nI gc), .int (nI kw)]), (rw0, zL G 24 (fun j => lN (RW j))), (rs, zI G 24 (fun j => nI (RS j)))] sz) := by
  refine z_metWv (by decide) (Nat.le_of_ble_eq_true rfl) (fun p e s m args below meth c ls A Q Sf hnm w hl hret => ?_)
  obtain ⟨H, hH⟩ : ∃ H, H = s.heap := ⟨_, rfl⟩
  obtain ⟨locs, hlo⟩ : ∃ L : List Loc, L = [] := ⟨_, rfl⟩
  rw [← hH, ← hlo] at w
  rw [← hH, ← hlo]
  clear hH hlo
  have Sf : CallFix p m c cWe_insertRank 5 s args zT RWe := Sf
  have hx := Sf.1
  have hb := Sf.2.1
  have hown := Sf.2.2.2.1
  have hts := Sf.2.2.2.2
  have hl : lv_has ls 5 [(0, .ref w0), (1, .int (nI x)), (2, .long (lN wq))] := hl
  have L68 : ∀ (p0 : Nat) (F1 F2 : Nat → Nat), (p0 ≤ min rk 23) → (F1 = shP RW (min rk 23) p0) → (F2 = shP RS (min rk 23) p0) → (rkAt RW wq (min rk 23) = p0) → ∀ (H : Heap) (locs : List Loc), zw G A s [(w0, zO 5 [.ref g, .ref fz, .ref ab, .ref ch, .ref pr, .ref bs, .ref rw0, .ref rs, .int (nI rk), .int (nI sup), .long (lN sm), .long (lN gs), .int (nI gc), .int (nI kw)]), (rw0, zL G 24 (fun j => lN (F1 j))), (rs, zI G 24 (fun j => nI (F2 j)))] H locs → ∀ (ls : Array Slot), lv_has ls 5 [(0, .ref w0), (1, .int (nI x)), (2, .long (lN wq)), (4, .int (nI p0))] → W p l e rm_We_insertRank s m args below meth c H locs 0 0 Q (F0 m 68 ls []) := by
    intro p0 F1 F2 hp hF1 hF2 hat H locs w ls hl
    refine lv_aload_n hx hb dWe_insertRank_68 rfl (lv_at hl 0 rfl) ?_
    refine gf_We_26 Sf w.1 0 rfl rfl dWe_insertRank_69 ?_
    refine lv_iload hx hb dWe_insertRank_72 (lv_at hl 3 rfl) ?_
    refine lv_lload_n hx hb dWe_insertRank_74 rfl (lv_at hl 2 rfl) ?_
    refine z_lastN hx hb w 1 (k := p0) rfl (by omega) (by omega) (ws' := [(w0, zO 5 [.ref g, .ref fz, .ref ab, .ref ch, .ref pr, .ref bs, .ref rw0, .ref rs, .int (nI rk), .int (nI sup), .long (lN sm), .long (lN gs), .int (nI gc), .int (nI kw)]), (rw0, zL G 24 (fun j => lN ((va_up F1 p0 wq) j))), (rs, zI G 24 (fun j => nI (F2 j)))]) rfl dWe_insertRank_75 (fun H locs w => ?_)
    refine lv_aload_n hx hb dWe_insertRank_76 rfl (lv_at hl 0 rfl) ?_
    refine gf_We_29 Sf w.1 0 rfl rfl dWe_insertRank_77 ?_
    refine lv_iload hx hb dWe_insertRank_80 (lv_at hl 3 rfl) ?_
    refine lv_iload_n hx hb dWe_insertRank_82 rfl (lv_at hl 1 rfl) ?_
    refine z_iastN hx hb w 2 (k := p0) rfl (by omega) (by omega) (ws' := [(w0, zO 5 [.ref g, .ref fz, .ref ab, .ref ch, .ref pr, .ref bs, .ref rw0, .ref rs, .int (nI rk), .int (nI sup), .long (lN sm), .long (lN gs), .int (nI gc), .int (nI kw)]), (rw0, zL G 24 (fun j => lN ((va_up F1 p0 wq) j))), (rs, zI G 24 (fun j => nI ((va_up F2 p0 x) j)))]) rfl dWe_insertRank_83 (fun H locs w => ?_)
    refine lv_aload_n hx hb dWe_insertRank_84 rfl (lv_at hl 0 rfl) ?_
    refine lv_aload_n hx hb dWe_insertRank_85 rfl (lv_at hl 0 rfl) ?_
    refine gf_We_69 Sf w.1 0 rfl rfl dWe_insertRank_86 ?_
    refine lv_iconst (v := (nI 1)) hx hb dWe_insertRank_89 (by decide) ?_
    refine z_addN hx hb dWe_insertRank_90 ?_
    refine lv_bipush (v := nI 24) hx hb dWe_insertRank_91 (by decide) ?_
    refine z_mminZ Sf mv_We_101 hl.1 ⟨Nat.le_of_ble_eq_true rfl, Nat.le_of_ble_eq_true rfl⟩ (Nat.le_of_ble_eq_true rfl) ⟨Nat.le_of_ble_eq_true rfl, Nat.le_of_ble_eq_true rfl⟩ dWe_insertRank_93 ?_
    rw [mnN (by omega) (by omega)]
    refine pf_We_69 Sf w 0 rfl rfl rfl (Nat.le_of_ble_eq_true rfl) (ws' := [(w0, zO 5 [.ref g, .ref fz, .ref ab, .ref ch, .ref pr, .ref bs, .ref rw0, .ref rs, .int (nI (min (rk + 1) 24)), .int (nI sup), .long (lN sm), .long (lN gs), .int (nI gc), .int (nI kw)]), (rw0, zL G 24 (fun j => lN ((va_up F1 p0 wq) j))), (rs, zI G 24 (fun j => nI ((va_up F2 p0 x) j)))]) rfl dWe_insertRank_96 (fun H locs w => ?_)
    exact hret _ _ _ _ () _ w (by rw [hF1, hF2, ← hat]; rfl) (trivial) dWe_insertRank_99 rfl
  refine lv_aload_n hx hb dWe_insertRank_0 rfl (lv_at hl 0 rfl) ?_
  refine gf_We_69 Sf w.1 0 rfl rfl dWe_insertRank_1 ?_
  refine lv_bipush (v := nI 23) hx hb dWe_insertRank_4 (by decide) ?_
  refine z_mminZ Sf mv_We_101 hl.1 ⟨Nat.le_of_ble_eq_true rfl, Nat.le_of_ble_eq_true rfl⟩ (Nat.le_of_ble_eq_true rfl) ⟨Nat.le_of_ble_eq_true rfl, Nat.le_of_ble_eq_true rfl⟩ dWe_insertRank_6 ?_
  rw [mnN (by omega) (by omega)]
  refine lv_istore (lv' := [(4, .int (nI (min rk 23))), (0, .ref w0), (1, .int (nI x)), (2, .long (lN wq))]) hx hb dWe_insertRank_9 hl (by decide) rfl (fun ls hl => ?_)
  have L11 : ∀ (fu11 : Nat) (p0 : Nat) (F1 F2 : Nat → Nat), (p0 ≤ min rk 23) → (F1 = shP RW (min rk 23) p0) → (F2 = shP RS (min rk 23) p0) → (rkAt RW wq (min rk 23) = rkAt RW wq p0) → (p0) < fu11 → ∀ (H : Heap) (locs : List Loc), zw G A s [(w0, zO 5 [.ref g, .ref fz, .ref ab, .ref ch, .ref pr, .ref bs, .ref rw0, .ref rs, .int (nI rk), .int (nI sup), .long (lN sm), .long (lN gs), .int (nI gc), .int (nI kw)]), (rw0, zL G 24 (fun j => lN (F1 j))), (rs, zI G 24 (fun j => nI (F2 j)))] H locs → ∀ (ls : Array Slot), lv_has ls 5 [(4, .int (nI p0)), (0, .ref w0), (1, .int (nI x)), (2, .long (lN wq))] → W p l e rm_We_insertRank s m args below meth c H locs 0 0 Q (F0 m 11 ls []) := by
    intro fu11
    induction fu11 with
    | zero =>
      intro p0 F1 F2 hp hF1 hF2 hat hm11
      exact absurd hm11 (Nat.not_lt_zero _)
    | succ fu11 ih11 =>
      intro p0 F1 F2 hp hF1 hF2 hat hm11 H locs w ls hl
      refine lv_iload hx hb dWe_insertRank_11 (lv_at hl 0 rfl) ?_
      refine z_ifleN (tgt := 68) hx hb (by omega) dWe_insertRank_13 (by decide) (fun c13 => ?_) (fun c13 => ?_)
      · skip
        refine L68 _ F1 F2 ?_ ?_ ?_ ?_ _ _ w ls (lv_sub hl [1, 2, 3, 0] rfl)
        · omega
        · exact hF1
        · exact hF2
        · first | (rw [hat, c13]; rfl) | (rw [hat]; exact rkAt_n (by rw [← hq1]; exact c27))
      · skip
        obtain ⟨q, rfl⟩ : ∃ q, p0 = q + 1 := ⟨p0 - 1, by omega⟩
        have hq1 : F1 q = RW q := by rw [hF1]; exact shP_at (by omega)
        have hq2 : F2 q = RS q := by rw [hF2]; exact shP_at (by omega)
        have hb1 := hRW q
        refine lv_aload_n hx hb dWe_insertRank_16 rfl (lv_at hl 1 rfl) ?_
        refine gf_We_26 Sf w.1 0 rfl rfl dWe_insertRank_17 ?_
        refine lv_iload hx hb dWe_insertRank_20 (lv_at hl 0 rfl) ?_
        refine lv_iconst (v := (nI 1)) hx hb dWe_insertRank_22 (by decide) ?_
        refine z_subN hx hb (by omega) dWe_insertRank_23 ?_
        rw [Nat.add_sub_cancel]
        refine z_lald hx hb w.1 1 (k := q) rfl (by omega) (by omega) dWe_insertRank_24 ?_
        refine lv_lload_n hx hb dWe_insertRank_25 rfl (lv_at hl 3 rfl) ?_
        refine W.lcmp hx hb dWe_insertRank_26 ?_
        refine z_lcgeN (tgt := 68) hx hb (by rw [hq1]; omega) (by omega) dWe_insertRank_27 (by decide) (fun c27 => ?_) (fun c27 => ?_)
        · skip
          refine L68 (q + 1) F1 F2 ?_ ?_ ?_ ?_ _ _ w ls (lv_sub hl [1, 2, 3, 0] rfl)
          · omega
          · exact hF1
          · exact hF2
          · first | (rw [hat, c13]; rfl) | (rw [hat]; exact rkAt_n (by rw [← hq1]; exact c27))
        · skip
          refine lv_aload_n hx hb dWe_insertRank_30 rfl (lv_at hl 1 rfl) ?_
          refine gf_We_26 Sf w.1 0 rfl rfl dWe_insertRank_31 ?_
          refine lv_iload hx hb dWe_insertRank_34 (lv_at hl 0 rfl) ?_
          refine lv_aload_n hx hb dWe_insertRank_36 rfl (lv_at hl 1 rfl) ?_
          refine gf_We_26 Sf w.1 0 rfl rfl dWe_insertRank_37 ?_
          refine lv_iload hx hb dWe_insertRank_40 (lv_at hl 0 rfl) ?_
          refine lv_iconst (v := (nI 1)) hx hb dWe_insertRank_42 (by decide) ?_
          refine z_subN hx hb (by omega) dWe_insertRank_43 ?_
          rw [Nat.add_sub_cancel]
          refine z_lald hx hb w.1 1 (k := q) rfl (by omega) (by omega) dWe_insertRank_44 ?_
          refine z_lastN hx hb w 1 (k := (q + 1)) rfl (by omega) (by omega) (ws' := [(w0, zO 5 [.ref g, .ref fz, .ref ab, .ref ch, .ref pr, .ref bs, .ref rw0, .ref rs, .int (nI rk), .int (nI sup), .long (lN sm), .long (lN gs), .int (nI gc), .int (nI kw)]), (rw0, zL G 24 (fun j => lN ((va_up F1 (q + 1) (F1 q)) j))), (rs, zI G 24 (fun j => nI (F2 j)))]) rfl dWe_insertRank_45 (fun H locs w => ?_)
          refine lv_aload_n hx hb dWe_insertRank_46 rfl (lv_at hl 1 rfl) ?_
          refine gf_We_29 Sf w.1 0 rfl rfl dWe_insertRank_47 ?_
          refine lv_iload hx hb dWe_insertRank_50 (lv_at hl 0 rfl) ?_
          refine lv_aload_n hx hb dWe_insertRank_52 rfl (lv_at hl 1 rfl) ?_
          refine gf_We_29 Sf w.1 0 rfl rfl dWe_insertRank_53 ?_
          refine lv_iload hx hb dWe_insertRank_56 (lv_at hl 0 rfl) ?_
          refine lv_iconst (v := (nI 1)) hx hb dWe_insertRank_58 (by decide) ?_
          refine z_subN hx hb (by omega) dWe_insertRank_59 ?_
          rw [Nat.add_sub_cancel]
          refine z_iald hx hb w.1 2 (k := q) rfl (by omega) (by omega) dWe_insertRank_60 ?_
          refine z_iastN hx hb w 2 (k := (q + 1)) rfl (by omega) (by omega) (ws' := [(w0, zO 5 [.ref g, .ref fz, .ref ab, .ref ch, .ref pr, .ref bs, .ref rw0, .ref rs, .int (nI rk), .int (nI sup), .long (lN sm), .long (lN gs), .int (nI gc), .int (nI kw)]), (rw0, zL G 24 (fun j => lN ((va_up F1 (q + 1) (F1 q)) j))), (rs, zI G 24 (fun j => nI ((va_up F2 (q + 1) (F2 q)) j)))]) rfl dWe_insertRank_61 (fun H locs w => ?_)
          refine lv_iinc (v := (nI q)) (lv' := [(4, .int (nI q)), (0, .ref w0), (1, .int (nI x)), (2, .long (lN wq))]) hx hb dWe_insertRank_62 hl (k := 0) rfl (pk_m1i q) (by decide) rfl (fun ls hl => ?_)
          refine lv_goto (tgt := 11) hx hb dWe_insertRank_65 (by decide) ?_
          refine ih11 q (va_up F1 (q + 1) (F1 q)) (va_up F2 (q + 1) (F2 q)) ?_ ?_ ?_ ?_ ?_ _ _ w ls (lv_sub hl [0, 1, 2, 3] rfl)
          · omega
          · rw [hq1, hF1]; exact shP_s (by omega)
          · rw [hq2, hF2]; exact shP_s (by omega)
          · rw [hat]; exact rkAt_y (by rw [← hq1]; exact c27)
          · omega
  refine L11 (((min rk 23)) + 1) (min rk 23) RW RS ?_ ?_ ?_ ?_ ?_ _ _ w ls (lv_sub hl [0, 1, 2, 3] rfl)
  · omega
  · exact (shP_tp _ _).symm
  · exact (shP_tp _ _).symm
  · rfl
  · exact Nat.lt_succ_self _

def rm_We_keep : Room := { frames := 2, cells := 0, slots := 0, locals := 64 }
set_option maxHeartbeats 4000000 in
set_option maxRecDepth 100000 in
theorem c_We_keep (l : Launch) (G : zG) (w0 g fz ab ch pr bs rw0 rs : Nat) (rk sup sm gs gc kw : Nat) (BS RW RS : Nat → Nat) (x wq : Nat) (hrk : rk ≤ 24) (hRW : ∀ i, RW i ≤ 33232930569601) (hw : wq ≤ 33232930569601) (hx0 : x < 65536) (sz : Nat) : Met l yWe_keep (.code yWe_keep cWe_keep 4 none :: zT) rm_We_keep (zPw G [.ref w0, .int (nI x), .long (lN wq)] [(w0, zO 5 [.ref g, .ref fz, .ref ab, .ref ch, .ref pr, .ref bs, .ref rw0, .ref rs, .int (nI rk), .int (nI sup), .long (lN sm), .long (lN gs), .int (nI gc), .int (nI kw)]), (bs, zL G 65536 (fun j => lN (BS j))), (rw0, zL G 24 (fun j => lN (RW j))), (rs, zI G 24 (fun j => nI (RS j)))] sz) (zQ (S := Unit) G (fun u => none) (fun u => [(w0, zO 5 [.ref g, .ref fz, .ref ab, .ref ch, .ref pr, .ref bs, .ref rw0, .ref rs, .int (nI ((kpZ RW RS rk x wq).2.2)), .int (nI (sup + 1)), .long (lN (sm + wq)), .long (lN gs), .int (nI gc), .int (nI kw)]), (bs, zL G 65536 (fun j => lN ((va_up BS x wq) j))), (rw0, zL G 24 (fun j => lN (((kpZ RW RS rk x wq).1) j))), (rs, zI G 24 (fun j => nI (((kpZ RW RS rk x wq).2.1) j)))]) (va_A [(w0, zO 5 [.ref g, .ref fz, .ref ab, .ref ch, .ref pr, .ref bs, .ref rw0, .ref rs, .int (nI rk), .int (nI sup), .long (lN sm), .long (lN gs), .int (nI gc), .int (nI kw)]), (bs, zL G 65536 (fun j => lN (BS j))), (rw0, zL G 24 (fun j => lN (RW j))), (rs, zI G 24 (fun j => nI (RS j)))] sz) (fun u => True)) 0 0 (va_A [(w0, zO 5 [.ref g, .ref fz, .ref ab, .ref ch, .ref pr, .ref bs, .ref rw0, .ref rs, .int (nI rk), .int (nI sup), .long (lN sm), .long (lN gs), .int (nI gc), .int (nI kw)]), (bs, zL G 65536 (fun j => lN (BS j))), (rw0, zL G 24 (fun j => lN (RW j))), (rs, zI G 24 (fun j => nI (RS j)))] sz) := by
  refine z_metWv (by decide) (Nat.le_of_ble_eq_true rfl) (fun p e s m args below meth c ls A Q Sf hnm w hl hret => ?_)
  obtain ⟨H, hH⟩ : ∃ H, H = s.heap := ⟨_, rfl⟩
  obtain ⟨locs, hlo⟩ : ∃ L : List Loc, L = [] := ⟨_, rfl⟩
  rw [← hH, ← hlo] at w
  rw [← hH, ← hlo]
  clear hH hlo
  have Sf : CallFix p m c cWe_keep 4 s args zT RWe := Sf
  have hx := Sf.1
  have hb := Sf.2.1
  have hown := Sf.2.2.2.1
  have hts := Sf.2.2.2.2
  have hl : lv_has ls 4 [(0, .ref w0), (1, .int (nI x)), (2, .long (lN wq))] := hl
  refine lv_iload_n hx hb dWe_keep_0 rfl (lv_at hl 1 rfl) ?_
  refine lv_aload_n hx hb dWe_keep_1 rfl (lv_at hl 0 rfl) ?_
  refine gf_We_23 Sf w.1 0 rfl rfl dWe_keep_2 ?_
  refine z_llen hx hb w.1 1 rfl dWe_keep_5 ?_
  refine z_icmpge (tgt := 63) hx hb (by omega) (by omega) dWe_keep_6 (by decide) (fun c6 => ?_) (fun c6 => ?_)
  · skip
    exact absurd c6 (by omega)
  · skip
    refine lv_aload_n hx hb dWe_keep_9 rfl (lv_at hl 0 rfl) ?_
    refine gf_We_23 Sf w.1 0 rfl rfl dWe_keep_10 ?_
    refine lv_iload_n hx hb dWe_keep_13 rfl (lv_at hl 1 rfl) ?_
    refine lv_lload_n hx hb dWe_keep_14 rfl (lv_at hl 2 rfl) ?_
    refine z_lastN hx hb w 1 (k := x) rfl (by omega) (by omega) (ws' := [(w0, zO 5 [.ref g, .ref fz, .ref ab, .ref ch, .ref pr, .ref bs, .ref rw0, .ref rs, .int (nI rk), .int (nI sup), .long (lN sm), .long (lN gs), .int (nI gc), .int (nI kw)]), (bs, zL G 65536 (fun j => lN ((va_up BS x wq) j))), (rw0, zL G 24 (fun j => lN (RW j))), (rs, zI G 24 (fun j => nI (RS j)))]) rfl dWe_keep_15 (fun H locs w => ?_)
    refine lv_aload_n hx hb dWe_keep_16 rfl (lv_at hl 0 rfl) ?_
    refine lv_dup hx hb dWe_keep_17 rfl ?_
    refine gf_We_75 Sf w.1 0 rfl rfl dWe_keep_18 ?_
    refine lv_lload_n hx hb dWe_keep_21 rfl (lv_at hl 2 rfl) ?_
    refine z_laddN hx hb dWe_keep_22 ?_
    refine pf_We_75 Sf w 0 rfl rfl rfl (Nat.le_of_ble_eq_true rfl) (ws' := [(w0, zO 5 [.ref g, .ref fz, .ref ab, .ref ch, .ref pr, .ref bs, .ref rw0, .ref rs, .int (nI rk), .int (nI sup), .long (lN (sm + wq)), .long (lN gs), .int (nI gc), .int (nI kw)]), (bs, zL G 65536 (fun j => lN ((va_up BS x wq) j))), (rw0, zL G 24 (fun j => lN (RW j))), (rs, zI G 24 (fun j => nI (RS j)))]) rfl dWe_keep_23 (fun H locs w => ?_)
    refine lv_aload_n hx hb dWe_keep_26 rfl (lv_at hl 0 rfl) ?_
    refine lv_dup hx hb dWe_keep_27 rfl ?_
    refine gf_We_72 Sf w.1 0 rfl rfl dWe_keep_28 ?_
    refine lv_iconst (v := (nI 1)) hx hb dWe_keep_31 (by decide) ?_
    refine z_addN hx hb dWe_keep_32 ?_
    refine pf_We_72 Sf w 0 rfl rfl rfl (Nat.le_of_ble_eq_true rfl) (ws' := [(w0, zO 5 [.ref g, .ref fz, .ref ab, .ref ch, .ref pr, .ref bs, .ref rw0, .ref rs, .int (nI rk), .int (nI (sup + 1)), .long (lN (sm + wq)), .long (lN gs), .int (nI gc), .int (nI kw)]), (bs, zL G 65536 (fun j => lN ((va_up BS x wq) j))), (rw0, zL G 24 (fun j => lN (RW j))), (rs, zI G 24 (fun j => nI (RS j)))]) rfl dWe_keep_33 (fun H locs w => ?_)
    refine lv_aload_n hx hb dWe_keep_36 rfl (lv_at hl 0 rfl) ?_
    refine gf_We_69 Sf w.1 0 rfl rfl dWe_keep_37 ?_
    refine lv_bipush (v := nI 24) hx hb dWe_keep_40 (by decide) ?_
    refine z_icmplt (tgt := 57) hx hb (by omega) (by omega) dWe_keep_42 (by decide) (fun c42 => ?_) (fun c42 => ?_)
    · skip
      refine lv_aload_n hx hb dWe_keep_57 rfl (lv_at hl 0 rfl) ?_
      refine lv_iload_n hx hb dWe_keep_58 rfl (lv_at hl 1 rfl) ?_
      refine lv_lload_n hx hb dWe_keep_59 rfl (lv_at hl 2 rfl) ?_
      refine z_wV (wr := [(bs, zL G 65536 (fun j => lN ((va_up BS x wq) j)))]) (As := [.int (nI x), .long (lN wq)]) (rest := []) Sf (c_We_insertRank l G w0 g fz ab ch pr bs rw0 rs rk (sup + 1) (sm + wq) gs gc kw RW RS x wq (by first | assumption | omega) (by first | assumption | omega) (by first | assumption | omega) H.size) mv_We_98 ⟨rfl, rfl⟩ ⟨Nat.le_of_ble_eq_true rfl, Nat.le_of_ble_eq_true rfl⟩ w [0, 2, 3] [1] rfl rfl (by decide) (by decide) (by decide) 0 rfl rfl rfl rfl hl.1 rfl (Nat.le_of_ble_eq_true rfl) dWe_keep_60 ⟨Nat.le_of_ble_eq_true rfl, Nat.le_of_ble_eq_true rfl⟩ (fun u1 H locs hu1 w => ?_)
      have w := w.eq (ws' := [(bs, zL G 65536 (fun j => lN ((va_up BS x wq) j))), (w0, zO 5 [.ref g, .ref fz, .ref ab, .ref ch, .ref pr, .ref bs, .ref rw0, .ref rs, .int (nI ((irZ RW RS rk x wq).2.2)), .int (nI (sup + 1)), .long (lN (sm + wq)), .long (lN gs), .int (nI gc), .int (nI kw)]), (rw0, zL G 24 (fun j => lN (((irZ RW RS rk x wq).1) j))), (rs, zI G 24 (fun j => nI (((irZ RW RS rk x wq).2.1) j)))]) rfl
      refine W.eq (g2 := F0 m 63 ls []) rfl ?_
      have w := w.perm (ws' := [(w0, zO 5 [.ref g, .ref fz, .ref ab, .ref ch, .ref pr, .ref bs, .ref rw0, .ref rs, .int (nI ((irZ RW RS rk x wq).2.2)), .int (nI (sup + 1)), .long (lN (sm + wq)), .long (lN gs), .int (nI gc), .int (nI kw)]), (bs, zL G 65536 (fun j => lN ((va_up BS x wq) j))), (rw0, zL G 24 (fun j => lN (((irZ RW RS rk x wq).1) j))), (rs, zI G 24 (fun j => nI (((irZ RW RS rk x wq).2.1) j)))]) [1, 0, 2, 3] (by decide) rfl
      exact hret _ _ _ _ () _ w (by first | (rw [kpZ_y (Or.inl c42)]; done) | (rw [kpZ_y (Or.inr c54)]; done) | (rw [kpZ_n (fun h => h.elim (fun q => by omega) (fun q => by omega))])) (trivial) dWe_keep_63 rfl
    · skip
      refine lv_lload_n hx hb dWe_keep_45 rfl (lv_at hl 2 rfl) ?_
      refine lv_aload_n hx hb dWe_keep_46 rfl (lv_at hl 0 rfl) ?_
      refine gf_We_26 Sf w.1 0 rfl rfl dWe_keep_47 ?_
      refine lv_bipush (v := nI 23) hx hb dWe_keep_50 (by decide) ?_
      have hb2 := hRW 23
      refine z_lald hx hb w.1 2 (k := 23) rfl (by omega) (by omega) dWe_keep_52 ?_
      refine W.lcmp hx hb dWe_keep_53 ?_
      refine z_lcleN (tgt := 63) hx hb (by omega) (by omega) dWe_keep_54 (by decide) (fun c54 => ?_) (fun c54 => ?_)
      · skip
        exact hret _ _ _ _ () _ w (by first | (rw [kpZ_y (Or.inl c42)]; done) | (rw [kpZ_y (Or.inr c54)]; done) | (rw [kpZ_n (fun h => h.elim (fun q => by omega) (fun q => by omega))])) (trivial) dWe_keep_63 rfl
      · skip
        refine lv_aload_n hx hb dWe_keep_57 rfl (lv_at hl 0 rfl) ?_
        refine lv_iload_n hx hb dWe_keep_58 rfl (lv_at hl 1 rfl) ?_
        refine lv_lload_n hx hb dWe_keep_59 rfl (lv_at hl 2 rfl) ?_
        refine z_wV (wr := [(bs, zL G 65536 (fun j => lN ((va_up BS x wq) j)))]) (As := [.int (nI x), .long (lN wq)]) (rest := []) Sf (c_We_insertRank l G w0 g fz ab ch pr bs rw0 rs rk (sup + 1) (sm + wq) gs gc kw RW RS x wq (by first | assumption | omega) (by first | assumption | omega) (by first | assumption | omega) H.size) mv_We_98 ⟨rfl, rfl⟩ ⟨Nat.le_of_ble_eq_true rfl, Nat.le_of_ble_eq_true rfl⟩ w [0, 2, 3] [1] rfl rfl (by decide) (by decide) (by decide) 0 rfl rfl rfl rfl hl.1 rfl (Nat.le_of_ble_eq_true rfl) dWe_keep_60 ⟨Nat.le_of_ble_eq_true rfl, Nat.le_of_ble_eq_true rfl⟩ (fun u2 H locs hu2 w => ?_)
        have w := w.eq (ws' := [(bs, zL G 65536 (fun j => lN ((va_up BS x wq) j))), (w0, zO 5 [.ref g, .ref fz, .ref ab, .ref ch, .ref pr, .ref bs, .ref rw0, .ref rs, .int (nI ((irZ RW RS rk x wq).2.2)), .int (nI (sup + 1)), .long (lN (sm + wq)), .long (lN gs), .int (nI gc), .int (nI kw)]), (rw0, zL G 24 (fun j => lN (((irZ RW RS rk x wq).1) j))), (rs, zI G 24 (fun j => nI (((irZ RW RS rk x wq).2.1) j)))]) rfl
        refine W.eq (g2 := F0 m 63 ls []) rfl ?_
        have w := w.perm (ws' := [(w0, zO 5 [.ref g, .ref fz, .ref ab, .ref ch, .ref pr, .ref bs, .ref rw0, .ref rs, .int (nI ((irZ RW RS rk x wq).2.2)), .int (nI (sup + 1)), .long (lN (sm + wq)), .long (lN gs), .int (nI gc), .int (nI kw)]), (bs, zL G 65536 (fun j => lN ((va_up BS x wq) j))), (rw0, zL G 24 (fun j => lN (((irZ RW RS rk x wq).1) j))), (rs, zI G 24 (fun j => nI (((irZ RW RS rk x wq).2.1) j)))]) [1, 0, 2, 3] (by decide) rfl
        exact hret _ _ _ _ () _ w (by first | (rw [kpZ_y (Or.inl c42)]; done) | (rw [kpZ_y (Or.inr c54)]; done) | (rw [kpZ_n (fun h => h.elim (fun q => by omega) (fun q => by omega))])) (trivial) dWe_keep_63 rfl

def rm_We_stateAbove : Room := { frames := 0, cells := 0, slots := 0, locals := 0 }
set_option maxHeartbeats 4000000 in
set_option maxRecDepth 100000 in
theorem c_We_stateAbove (l : Launch) (G : zG) (w0 g fz ab ch pr bs rw0 rs : Nat) (rk sup sm gs gc kw : Nat) (av an n NS : Nat) (BS : Nat → Nat) (u : Nat) (hNS : NS ≤ 65536) (hBS : ∀ i, BS i ≤ 33232930569601) (hu : u < 2 ^ 63) : Met l yWe_stateAbove (.code yWe_stateAbove cWe_stateAbove 6 (some .int) :: zT) rm_We_stateAbove (zPr G [.ref w0, .long (lN u)] [(w0, zO 5 [.ref g, .ref fz, .ref ab, .ref ch, .ref pr, .ref bs, .ref rw0, .ref rs, .int (nI rk), .int (nI sup), .long (lN sm), .long (lN gs), .int (nI gc), .int (nI kw)]), (g, zO 2 [.ref av, .ref an, .int (nI n), .int (nI NS)]), (bs, zL G 65536 (fun j => lN (BS j)))]) (k2_QcV (.int (nI (saG BS u NS 0)))) 0 0 (fun _ => False) := by
  refine z_metRi (by decide) (Nat.le_of_ble_eq_true rfl) (fun p e s m args below meth c ls Q Sf r hl hret => ?_)
  have Sf : CallFix p m c cWe_stateAbove 6 s args zT RWe := Sf
  have hx := Sf.1
  have hb := Sf.2.1
  have hown := Sf.2.2.2.1
  have hts := Sf.2.2.2.2
  have hl : lv_has ls 6 [(0, .ref w0), (1, .long (lN u))] := hl
  refine lv_lconst (v := lN 0) hx hb dWe_stateAbove_0 (by decide) ?_
  refine lv_lstore_n (lv' := [(3, .long (lN 0)), (0, .ref w0), (1, .long (lN u))]) hx hb dWe_stateAbove_1 rfl hl (by decide) rfl (fun ls hl => ?_)
  refine lv_iconst (v := (nI 0)) hx hb dWe_stateAbove_2 (by decide) ?_
  refine lv_istore (lv' := [(5, .int (nI 0)), (3, .long (lN 0)), (0, .ref w0), (1, .long (lN u))]) hx hb dWe_stateAbove_3 hl (by decide) rfl (fun ls hl => ?_)
  have L5 : ∀ (fu5 : Nat) (i b : Nat), (i ≤ NS) → (b = sumF BS i) → (saG BS u NS 0 = saG BS u (NS - i) i) → (NS - i) < fu5 → ∀ (ls : Array Slot), lv_has ls 6 [(5, .int (nI i)), (3, .long (lN b)), (0, .ref w0), (1, .long (lN u))] → W p l e rm_We_stateAbove s m args below meth c s.heap [] 0 0 Q (F0 m 5 ls []) := by
    intro fu5
    induction fu5 with
    | zero =>
      intro i b hi hb0 hs hm5
      exact absurd hm5 (Nat.not_lt_zero _)
    | succ fu5 ih5 =>
      intro i b hi hb0 hs hm5 ls hl
      refine lv_iload hx hb dWe_stateAbove_5 (lv_at hl 0 rfl) ?_
      refine lv_aload_n hx hb dWe_stateAbove_7 rfl (lv_at hl 2 rfl) ?_
      refine gf_We_32 Sf r 0 rfl rfl dWe_stateAbove_8 ?_
      refine gf_We_66 Sf r 1 rfl rfl dWe_stateAbove_11 ?_
      refine z_icmpge (tgt := 42) hx hb (by omega) (by omega) dWe_stateAbove_14 (by decide) (fun c14 => ?_) (fun c14 => ?_)
      · skip
        refine lv_iconst (v := (nI 0)) hx hb dWe_stateAbove_42 (by decide) ?_
        exact hret _ _ _ dWe_stateAbove_43 (by rw [hs, show NS - i = 0 by omega]; rfl)
      · skip
        have hsb : b + BS i = sumF BS (i + 1) := by rw [hb0]; rfl
        have hbb := sumF_b (i := i + 1) hBS (by omega)
        refine lv_lload_n hx hb dWe_stateAbove_17 rfl (lv_at hl 1 rfl) ?_
        refine lv_aload_n hx hb dWe_stateAbove_18 rfl (lv_at hl 2 rfl) ?_
        refine gf_We_23 Sf r 0 rfl rfl dWe_stateAbove_19 ?_
        refine lv_iload hx hb dWe_stateAbove_22 (lv_at hl 0 rfl) ?_
        refine z_lald hx hb r 2 (k := i) rfl (by omega) (by omega) dWe_stateAbove_24 ?_
        refine z_laddN hx hb dWe_stateAbove_25 ?_
        refine lv_lstore_n (lv' := [(3, .long (lN (b + (BS i)))), (5, .int (nI i)), (0, .ref w0), (1, .long (lN u))]) hx hb dWe_stateAbove_26 rfl hl (by decide) rfl (fun ls hl => ?_)
        refine lv_lload_n hx hb dWe_stateAbove_27 rfl (lv_at hl 0 rfl) ?_
        refine lv_lload_n hx hb dWe_stateAbove_28 rfl (lv_at hl 3 rfl) ?_
        refine W.lcmp hx hb dWe_stateAbove_29 ?_
        refine z_lcleN (tgt := 36) hx hb (by omega) (by omega) dWe_stateAbove_30 (by decide) (fun c30 => ?_) (fun c30 => ?_)
        · skip
          refine z_iinc (d := 1) (lv' := [(5, .int (nI (i + 1))), (3, .long (lN (b + (BS i)))), (0, .ref w0), (1, .long (lN u))]) hx hb dWe_stateAbove_36 hl (k := 1) rfl (by decide) (by decide) rfl (fun ls hl => ?_)
          refine lv_goto (tgt := 5) hx hb dWe_stateAbove_39 (by decide) ?_
          refine ih5 (i + 1) (b + (BS i)) ?_ ?_ ?_ ?_ ls (lv_sub hl [0, 1, 2, 3] rfl)
          · omega
          · rw [hb0]; rfl
          · rw [hs, show NS - i = (NS - (i + 1)) + 1 by omega]; exact saG_f (by rw [← hsb]; omega)
          · omega
        · skip
          refine lv_iload hx hb dWe_stateAbove_33 (lv_at hl 1 rfl) ?_
          exact hret _ _ _ dWe_stateAbove_35 (by rw [hs, show NS - i = (NS - (i + 1)) + 1 by omega, saG_t (by rw [← hsb]; omega)])
  refine L5 ((NS - 0) + 1) 0 0 ?_ ?_ ?_ ?_ ls (lv_sub hl [0, 1, 2, 3] rfl)
  · omega
  · rfl
  · rfl
  · exact Nat.lt_succ_self _
