theorem valF_ltc {V : Nat → Nat} {n x i : Nat} (h : 0 < V i) : valF V n x i < V i := Nat.mod_lt _ h
theorem cgF_le {V : Nat → Nat} {S num j : Nat} (h : 0 < V j) : cgF V S num j ≤ V j := by
  have := Nat.mod_lt (ghR V S num j) h
  unfold cgF
  split <;> omega
def rm_We_gatherWhere : Room := { frames := 15, cells := 0, slots := 0, locals := 444 }
set_option maxHeartbeats 4000000 in
set_option maxRecDepth 100000 in
theorem c_We_gatherWhere (l : Launch) (G : zG) (w0 g fz ab ch pr bs rw0 rs : Nat) (rk sup sm gs gc kw : Nat) (av an n : Nat) (st : Int32) (V C BS : Nat → Nat) (S num : Nat) (hn : n ≤ 12) (hBS : ∀ i, BS i ≤ 33232930569601) (hV0 : ∀ j, j < n → 0 < V j ∧ V j ≤ 4) (hS : S < 4096) (hnu : num < 2 ^ 31) (hns : prV V 0 n ≤ 65536) (sz : Nat) : Met l yWe_gatherWhere (.code yWe_gatherWhere cWe_gatherWhere 5 none :: zT) rm_We_gatherWhere (zPw G [.ref w0, .int (nI S), .int (nI num)] [(w0, zO 5 [.ref g, .ref fz, .ref ab, .ref ch, .ref pr, .ref bs, .ref rw0, .ref rs, .int (nI rk), .int (nI sup), .long (lN sm), .long (lN gs), .int (nI gc), .int (nI kw)]), (g, zO 2 [.ref av, .ref an, .int (nI n), .int st]), (av, zI G 12 (fun j => nI (V j))), (ch, zI G 12 (fun j => nI (C j))), (bs, zL G 65536 (fun j => lN (BS j)))] sz) (zQ (S := Nat → Nat) G (fun u => none) (fun u => [(w0, zO 5 [.ref g, .ref fz, .ref ab, .ref ch, .ref pr, .ref bs, .ref rw0, .ref rs, .int (nI rk), .int (nI sup), .long (lN sm), .long (lN ((gaF V (cgF V S num) BS n 0 0 (0, 0)).1)), .int (nI ((gaF V (cgF V S num) BS n 0 0 (0, 0)).2)), .int (nI kw)]), (g, zO 2 [.ref av, .ref an, .int (nI n), .int st]), (av, zI G 12 (fun j => nI (V j))), (ch, zI G 12 (fun j => nI (u j))), (bs, zL G 65536 (fun j => lN (BS j)))]) (va_A [(w0, zO 5 [.ref g, .ref fz, .ref ab, .ref ch, .ref pr, .ref bs, .ref rw0, .ref rs, .int (nI rk), .int (nI sup), .long (lN sm), .long (lN gs), .int (nI gc), .int (nI kw)]), (g, zO 2 [.ref av, .ref an, .int (nI n), .int st]), (av, zI G 12 (fun j => nI (V j))), (ch, zI G 12 (fun j => nI (C j))), (bs, zL G 65536 (fun j => lN (BS j)))] sz) (fun u => True)) 0 0 (va_A [(w0, zO 5 [.ref g, .ref fz, .ref ab, .ref ch, .ref pr, .ref bs, .ref rw0, .ref rs, .int (nI rk), .int (nI sup), .long (lN sm), .long (lN gs), .int (nI gc), .int (nI kw)]), (g, zO 2 [.ref av, .ref an, .int (nI n), .int st]), (av, zI G 12 (fun j => nI (V j))), (ch, zI G 12 (fun j => nI (C j))), (bs, zL G 65536 (fun j => lN (BS j)))] sz) := by
  refine z_metWv (by decide) (Nat.le_of_ble_eq_true rfl) (fun p e s m args below meth c ls A Q Sf hnm w hl hret => ?_)
  obtain ⟨H, hH⟩ : ∃ H, H = s.heap := ⟨_, rfl⟩
  obtain ⟨locs, hlo⟩ : ∃ L : List Loc, L = [] := ⟨_, rfl⟩
  rw [← hH, ← hlo] at w
  rw [← hH, ← hlo]
  clear hH hlo
  have Sf : CallFix p m c cWe_gatherWhere 5 s args zT RWe := Sf
  have hx := Sf.1
  have hb := Sf.2.1
  have hown := Sf.2.2.2.1
  have hts := Sf.2.2.2.2
  have hl : lv_has ls 5 [(0, .ref w0), (1, .int (nI S)), (2, .int (nI num))] := hl
  refine lv_iload_n hx hb dWe_gatherWhere_0 rfl (lv_at hl 2 rfl) ?_
  refine lv_istore_n (lv' := [(3, .int (nI num)), (0, .ref w0), (1, .int (nI S)), (2, .int (nI num))]) hx hb dWe_gatherWhere_1 rfl hl (by decide) rfl (fun ls hl => ?_)
  refine lv_iconst (v := (nI 0)) hx hb dWe_gatherWhere_2 (by decide) ?_
  refine lv_istore (lv' := [(4, .int (nI 0)), (3, .int (nI num)), (0, .ref w0), (1, .int (nI S)), (2, .int (nI num))]) hx hb dWe_gatherWhere_3 hl (by decide) rfl (fun ls hl => ?_)
  have L5 : ∀ (fu5 : Nat) (i re : Nat) (F : Nat → Int32), (i ≤ n) → (re = ghR V S num i) → (F = rwM (fun j => nI (C j)) (cgF V S num) i) → (n - i) < fu5 → ∀ (H : Heap) (locs : List Loc), zw G A s [(w0, zO 5 [.ref g, .ref fz, .ref ab, .ref ch, .ref pr, .ref bs, .ref rw0, .ref rs, .int (nI rk), .int (nI sup), .long (lN sm), .long (lN gs), .int (nI gc), .int (nI kw)]), (g, zO 2 [.ref av, .ref an, .int (nI n), .int st]), (av, zI G 12 (fun j => nI (V j))), (ch, zI G 12 F), (bs, zL G 65536 (fun j => lN (BS j)))] H locs → ∀ (ls : Array Slot), lv_has ls 5 [(4, .int (nI i)), (3, .int (nI re)), (0, .ref w0), (1, .int (nI S)), (2, .int (nI num))] → W p l e rm_We_gatherWhere s m args below meth c H locs 0 0 Q (F0 m 5 ls []) := by
    intro fu5
    induction fu5 with
    | zero =>
      intro i re F hi hre hF hm5
      exact absurd hm5 (Nat.not_lt_zero _)
    | succ fu5 ih5 =>
      intro i re F hi hre hF hm5 H locs w ls hl
      refine lv_iload hx hb dWe_gatherWhere_5 (lv_at hl 0 rfl) ?_
      refine lv_aload_n hx hb dWe_gatherWhere_7 rfl (lv_at hl 2 rfl) ?_
      refine gf_We_32 Sf w.1 0 rfl rfl dWe_gatherWhere_8 ?_
      refine gf_We_50 Sf w.1 1 rfl rfl dWe_gatherWhere_11 ?_
      refine z_icmpge (tgt := 76) hx hb (by omega) (by omega) dWe_gatherWhere_14 (by decide) (fun c14 => ?_) (fun c14 => ?_)
      · skip
        have hin : i = n := by omega
        refine lv_aload_n hx hb dWe_gatherWhere_76 rfl (lv_at hl 2 rfl) ?_
        refine lv_lconst (v := lN 0) hx hb dWe_gatherWhere_77 (by decide) ?_
        refine pf_We_112 Sf w 0 rfl rfl rfl (Nat.le_of_ble_eq_true rfl) (ws' := [(w0, zO 5 [.ref g, .ref fz, .ref ab, .ref ch, .ref pr, .ref bs, .ref rw0, .ref rs, .int (nI rk), .int (nI sup), .long (lN sm), .long (lN 0), .int (nI gc), .int (nI kw)]), (g, zO 2 [.ref av, .ref an, .int (nI n), .int st]), (av, zI G 12 (fun j => nI (V j))), (ch, zI G 12 F), (bs, zL G 65536 (fun j => lN (BS j)))]) rfl dWe_gatherWhere_78 (fun H locs w => ?_)
        refine lv_aload_n hx hb dWe_gatherWhere_81 rfl (lv_at hl 2 rfl) ?_
        refine lv_iconst (v := (nI 0)) hx hb dWe_gatherWhere_82 (by decide) ?_
        refine pf_We_115 Sf w 0 rfl rfl rfl (Nat.le_of_ble_eq_true rfl) (ws' := [(w0, zO 5 [.ref g, .ref fz, .ref ab, .ref ch, .ref pr, .ref bs, .ref rw0, .ref rs, .int (nI rk), .int (nI sup), .long (lN sm), .long (lN 0), .int (nI 0), .int (nI kw)]), (g, zO 2 [.ref av, .ref an, .int (nI n), .int st]), (av, zI G 12 (fun j => nI (V j))), (ch, zI G 12 F), (bs, zL G 65536 (fun j => lN (BS j)))]) rfl dWe_gatherWhere_83 (fun H locs w => ?_)
        refine lv_aload_n hx hb dWe_gatherWhere_86 rfl (lv_at hl 2 rfl) ?_
        refine lv_iconst (v := (nI 0)) hx hb dWe_gatherWhere_87 (by decide) ?_
        refine lv_iconst (v := (nI 0)) hx hb dWe_gatherWhere_88 (by decide) ?_
        refine z_wV (wr := []) (As := [.int (nI 0), .int (nI 0)]) (rest := []) Sf (c_We_gather n l G w0 g fz ab ch pr bs rw0 rs rk sup sm 0 0 kw av an n st V (cgF V S num) BS F 0 0 (by first | assumption | omega) (by first | assumption | omega) (by first | assumption | omega) (Nat.zero_add n) (by rw [Nat.zero_add, Nat.one_mul]; exact hns) (fun j hj => by rw [hF]; unfold rwM; rw [if_pos (by omega)]) (fun j hj => cgF_le (hV0 j hj).1) H.size) mv_We_118 ⟨rfl, rfl⟩ ⟨by first | exact Nat.le_of_ble_eq_true rfl | (simp only [rm_We_gather, rm_We_gatherWhere]; omega), by first | exact Nat.le_of_ble_eq_true rfl | (simp only [rm_We_gather, rm_We_gatherWhere]; omega)⟩ w [0, 1, 2, 3, 4] [] rfl rfl (by decide) (by decide) (by decide) 0 rfl rfl rfl rfl hl.1 rfl (Nat.le_of_ble_eq_true rfl) dWe_gatherWhere_89 ⟨Nat.le_of_ble_eq_true rfl, Nat.le_of_ble_eq_true rfl⟩ (fun u1 H locs hu1 w => ?_)
        have w := w.eq (ws' := [(w0, zO 5 [.ref g, .ref fz, .ref ab, .ref ch, .ref pr, .ref bs, .ref rw0, .ref rs, .int (nI rk), .int (nI sup), .long (lN sm), .long (lN ((gaF V (cgF V S num) BS n 0 0 (0, 0)).1)), .int (nI ((gaF V (cgF V S num) BS n 0 0 (0, 0)).2)), .int (nI kw)]), (g, zO 2 [.ref av, .ref an, .int (nI n), .int st]), (av, zI G 12 (fun j => nI (V j))), (ch, zI G 12 F), (bs, zL G 65536 (fun j => lN (BS j)))]) rfl
        refine W.eq (g2 := F0 m 92 ls []) rfl ?_
        have w := w.eq (ws' := [(w0, zO 5 [.ref g, .ref fz, .ref ab, .ref ch, .ref pr, .ref bs, .ref rw0, .ref rs, .int (nI rk), .int (nI sup), .long (lN sm), .long (lN ((gaF V (cgF V S num) BS n 0 0 (0, 0)).1)), .int (nI ((gaF V (cgF V S num) BS n 0 0 (0, 0)).2)), .int (nI kw)]), (g, zO 2 [.ref av, .ref an, .int (nI n), .int st]), (av, zI G 12 (fun j => nI (V j))), (ch, zI G 12 (fun j => nI ((fun j => uN (F j)) j))), (bs, zL G 65536 (fun j => lN (BS j)))]) (by rw [← rawN])
        exact hret _ _ _ _ (fun j => uN (F j)) _ w (rfl) (trivial) dWe_gatherWhere_92 rfl
      · skip
        have hva := hV0 i (by omega)
        have hr0 : re < 2 ^ 31 := Nat.lt_of_le_of_lt (hre ▸ ghR_le i) hnu
        refine lv_aload_n hx hb dWe_gatherWhere_17 rfl (lv_at hl 2 rfl) ?_
        refine gf_We_15 Sf w.1 0 rfl rfl dWe_gatherWhere_18 ?_
        refine lv_iload hx hb dWe_gatherWhere_21 (lv_at hl 0 rfl) ?_
        refine lv_iconst (v := (mI 0)) hx hb dWe_gatherWhere_23 (by decide) ?_
        refine z_iast hx hb w 3 (k := i) rfl (by omega) (by omega) (ws' := [(w0, zO 5 [.ref g, .ref fz, .ref ab, .ref ch, .ref pr, .ref bs, .ref rw0, .ref rs, .int (nI rk), .int (nI sup), .long (lN sm), .long (lN gs), .int (nI gc), .int (nI kw)]), (g, zO 2 [.ref av, .ref an, .int (nI n), .int st]), (av, zI G 12 (fun j => nI (V j))), (ch, zI G 12 (upd F i (mI 0))), (bs, zL G 65536 (fun j => lN (BS j)))]) rfl dWe_gatherWhere_24 (fun H locs w => ?_)
        refine lv_iload_n hx hb dWe_gatherWhere_25 rfl (lv_at hl 3 rfl) ?_
        refine lv_iconst (v := (nI 1)) hx hb dWe_gatherWhere_26 (by decide) ?_
        refine lv_iload hx hb dWe_gatherWhere_27 (lv_at hl 0 rfl) ?_
        refine z_shl1 hx hb (by omega) dWe_gatherWhere_29 ?_
        refine z_andN hx hb dWe_gatherWhere_30 ?_
        refine z_ifeqbit (tgt := 70) hx hb (by omega) dWe_gatherWhere_31 (by decide) (fun c31 => ?_) (fun c31 => ?_)
        · skip
          refine z_iinc (d := 1) (lv' := [(4, .int (nI (i + 1))), (3, .int (nI re)), (0, .ref w0), (1, .int (nI S)), (2, .int (nI num))]) hx hb dWe_gatherWhere_70 hl (k := 0) rfl (by decide) (by decide) rfl (fun ls hl => ?_)
          refine lv_goto (tgt := 5) hx hb dWe_gatherWhere_73 (by decide) ?_
          refine ih5 (i + 1) _ (upd F i (mI 0)) ?_ ?_ ?_ ?_ _ _ w ls (lv_sub hl [0, 1, 2, 3, 4] rfl)
          · omega
          · first | (rw [ghR_t c31, hre]; done) | (rw [ghR_f c31, hre])
          · first | (rw [upd_upd, hF, hre, ← rwM_s, cgF_t c31, mI_s]; done) | (rw [hF, ← rwM_s, cgF_f c31])
          · omega
        · skip
          refine lv_aload_n hx hb dWe_gatherWhere_34 rfl (lv_at hl 2 rfl) ?_
          refine gf_We_15 Sf w.1 0 rfl rfl dWe_gatherWhere_35 ?_
          refine lv_iload hx hb dWe_gatherWhere_38 (lv_at hl 0 rfl) ?_
          refine lv_iload_n hx hb dWe_gatherWhere_40 rfl (lv_at hl 1 rfl) ?_
          refine lv_aload_n hx hb dWe_gatherWhere_41 rfl (lv_at hl 2 rfl) ?_
          refine gf_We_32 Sf w.1 0 rfl rfl dWe_gatherWhere_42 ?_
          refine gf_We_91 Sf w.1 1 rfl rfl dWe_gatherWhere_45 ?_
          refine lv_iload hx hb dWe_gatherWhere_48 (lv_at hl 0 rfl) ?_
          refine z_iald hx hb w.1 2 (k := i) rfl (by omega) (by omega) dWe_gatherWhere_50 ?_
          refine z_rS (As := [.int (nI re), .int (nI (V i))]) (rest := [.int (nI i), .ref ch]) Sf (c_Graph_remainder l G re (V i) hr0 hva.1 (by omega)) mv_We_106 ⟨rfl, rfl⟩ ⟨Nat.le_of_ble_eq_true rfl, Nat.le_of_ble_eq_true rfl⟩ w.1 [] rfl rfl hl.1 rfl (Nat.le_of_ble_eq_true rfl) dWe_gatherWhere_51 ⟨Nat.le_of_ble_eq_true rfl, Nat.le_of_ble_eq_true rfl⟩ ?_
          refine z_iast hx hb w 3 (k := i) rfl (by omega) (by omega) (ws' := [(w0, zO 5 [.ref g, .ref fz, .ref ab, .ref ch, .ref pr, .ref bs, .ref rw0, .ref rs, .int (nI rk), .int (nI sup), .long (lN sm), .long (lN gs), .int (nI gc), .int (nI kw)]), (g, zO 2 [.ref av, .ref an, .int (nI n), .int st]), (av, zI G 12 (fun j => nI (V j))), (ch, zI G 12 (upd (upd F i (mI 0)) i (nI (re % (V i))))), (bs, zL G 65536 (fun j => lN (BS j)))]) rfl dWe_gatherWhere_54 (fun H locs w => ?_)
          refine lv_iload_n hx hb dWe_gatherWhere_55 rfl (lv_at hl 1 rfl) ?_
          refine lv_aload_n hx hb dWe_gatherWhere_56 rfl (lv_at hl 2 rfl) ?_
          refine gf_We_32 Sf w.1 0 rfl rfl dWe_gatherWhere_57 ?_
          refine gf_We_91 Sf w.1 1 rfl rfl dWe_gatherWhere_60 ?_
          refine lv_iload hx hb dWe_gatherWhere_63 (lv_at hl 0 rfl) ?_
          refine z_iald hx hb w.1 2 (k := i) rfl (by omega) (by omega) dWe_gatherWhere_65 ?_
          refine z_rS (As := [.int (nI re), .int (nI (V i))]) (rest := []) Sf (c_Graph_quotient l G re (V i) hr0 hva.1 (by omega)) mv_We_109 ⟨rfl, rfl⟩ ⟨Nat.le_of_ble_eq_true rfl, Nat.le_of_ble_eq_true rfl⟩ w.1 [] rfl rfl hl.1 rfl (Nat.le_of_ble_eq_true rfl) dWe_gatherWhere_66 ⟨Nat.le_of_ble_eq_true rfl, Nat.le_of_ble_eq_true rfl⟩ ?_
          refine lv_istore_n (lv' := [(3, .int (nI (re / (V i)))), (4, .int (nI i)), (0, .ref w0), (1, .int (nI S)), (2, .int (nI num))]) hx hb dWe_gatherWhere_69 rfl hl (by decide) rfl (fun ls hl => ?_)
          refine z_iinc (d := 1) (lv' := [(4, .int (nI (i + 1))), (3, .int (nI (re / (V i)))), (0, .ref w0), (1, .int (nI S)), (2, .int (nI num))]) hx hb dWe_gatherWhere_70 hl (k := 1) rfl (by decide) (by decide) rfl (fun ls hl => ?_)
          refine lv_goto (tgt := 5) hx hb dWe_gatherWhere_73 (by decide) ?_
          refine ih5 (i + 1) (re / (V i)) (upd (upd F i (mI 0)) i (nI (re % (V i)))) ?_ ?_ ?_ ?_ _ _ w ls (lv_sub hl [0, 1, 2, 3, 4] rfl)
          · omega
          · first | (rw [ghR_t c31, hre]; done) | (rw [ghR_f c31, hre])
          · first | (rw [upd_upd, hF, hre, ← rwM_s, cgF_t c31, mI_s]; done) | (rw [hF, ← rwM_s, cgF_f c31])
          · omega
  refine L5 ((n - 0) + 1) 0 num (fun j => nI (C j)) ?_ ?_ ?_ ?_ _ _ w ls (lv_sub hl [0, 1, 2, 3, 4] rfl)
  · omega
  · rfl
  · exact (rwM_0 _ _).symm
  · exact Nat.lt_succ_self _

def rm_We_weightOf : Room := { frames := 3, cells := 0, slots := 0, locals := 87 }
set_option maxHeartbeats 4000000 in
set_option maxRecDepth 100000 in
theorem c_We_weightOf (l : Launch) (G : zG) (w0 g fz ab ch pr bs rw0 rs : Nat) (rk sup sm gs gc kw : Nat) (av an n : Nat) (st : Int32) (V Bd C : Nat → Nat) (bn bl nf ca : Nat) (fB : Nat → Option Nat) (X : Nat → fR) (x : Nat) (hn : n ≤ 12) (hV0 : ∀ j, j < n → 0 < V j ∧ V j ≤ 4) (hBd : ∀ i, Bd i ≤ 4) (hnf : nf ≤ 16) (hX : ∀ i, i < 16 → fOk (X i)) (hB : ∀ i, i < nf → fB i = some (xA (X i))) (hx0 : x < 2 ^ 31) (hE0 : ∀ i, i < nf → xEn X (rowF C (valF V n x) n) i < xC (X i)) (sz : Nat) : Met l yWe_weightOf (.code yWe_weightOf cWe_weightOf 4 (some .long) :: zT) rm_We_weightOf (zPw G [.ref w0, .int (nI x)] ([(w0, zO 5 [.ref g, .ref fz, .ref ab, .ref ch, .ref pr, .ref bs, .ref rw0, .ref rs, .int (nI rk), .int (nI sup), .long (lN sm), .long (lN gs), .int (nI gc), .int (nI kw)]), (g, zO 2 [.ref av, .ref an, .int (nI n), .int st]), (av, zI G 12 (fun j => nI (V j))), (ab, zI G 12 (fun j => mI (Bd j))), (ch, zI G 12 (fun j => nI (C j))), (fz, zO 1 [.ref g, .ref bn, .ref bl, .int (nI nf), .int (nI ca)]), (bn, zF G 16 fB)] ++ pool G X 16) sz) (zQ (S := Nat → Nat) G (fun u => some (.long (lN (zif (evP Bd (valF V n x) n) (paP X (rowF C (valF V n x) n) nf) 0)))) (fun u => ([(w0, zO 5 [.ref g, .ref fz, .ref ab, .ref ch, .ref pr, .ref bs, .ref rw0, .ref rs, .int (nI rk), .int (nI sup), .long (lN sm), .long (lN gs), .int (nI gc), .int (nI kw)]), (g, zO 2 [.ref av, .ref an, .int (nI n), .int st]), (av, zI G 12 (fun j => nI (V j))), (ab, zI G 12 (fun j => mI (Bd j))), (ch, zI G 12 (fun j => nI (u j))), (fz, zO 1 [.ref g, .ref bn, .ref bl, .int (nI nf), .int (nI ca)]), (bn, zF G 16 fB)] ++ pool G X 16)) (va_A ([(w0, zO 5 [.ref g, .ref fz, .ref ab, .ref ch, .ref pr, .ref bs, .ref rw0, .ref rs, .int (nI rk), .int (nI sup), .long (lN sm), .long (lN gs), .int (nI gc), .int (nI kw)]), (g, zO 2 [.ref av, .ref an, .int (nI n), .int st]), (av, zI G 12 (fun j => nI (V j))), (ab, zI G 12 (fun j => mI (Bd j))), (ch, zI G 12 (fun j => nI (C j))), (fz, zO 1 [.ref g, .ref bn, .ref bl, .int (nI nf), .int (nI ca)]), (bn, zF G 16 fB)] ++ pool G X 16) sz) (fun u => True)) 0 0 (va_A ([(w0, zO 5 [.ref g, .ref fz, .ref ab, .ref ch, .ref pr, .ref bs, .ref rw0, .ref rs, .int (nI rk), .int (nI sup), .long (lN sm), .long (lN gs), .int (nI gc), .int (nI kw)]), (g, zO 2 [.ref av, .ref an, .int (nI n), .int st]), (av, zI G 12 (fun j => nI (V j))), (ab, zI G 12 (fun j => mI (Bd j))), (ch, zI G 12 (fun j => nI (C j))), (fz, zO 1 [.ref g, .ref bn, .ref bl, .int (nI nf), .int (nI ca)]), (bn, zF G 16 fB)] ++ pool G X 16) sz) := by
  refine z_metWl (by decide) (Nat.le_of_ble_eq_true rfl) (fun p e s m args below meth c ls A Q Sf hnm w hl hret => ?_)
  obtain ⟨H, hH⟩ : ∃ H, H = s.heap := ⟨_, rfl⟩
  obtain ⟨locs, hlo⟩ : ∃ L : List Loc, L = [] := ⟨_, rfl⟩
  rw [← hH, ← hlo] at w
  rw [← hH, ← hlo]
  clear hH hlo
  have Sf : CallFix p m c cWe_weightOf 4 s args zT RWe := Sf
  have hx := Sf.1
  have hb := Sf.2.1
  have hown := Sf.2.2.2.1
  have hts := Sf.2.2.2.2
  have hl : lv_has ls 4 [(0, .ref w0), (1, .int (nI x))] := hl
  refine lv_iconst (v := (nI 0)) hx hb dWe_weightOf_0 (by decide) ?_
  refine lv_istore_n (lv' := [(2, .int (nI 0)), (0, .ref w0), (1, .int (nI x))]) hx hb dWe_weightOf_1 rfl hl (by decide) rfl (fun ls hl => ?_)
  have L2 : ∀ (fu2 : Nat) (i : Nat) (F : Nat → Nat), (i ≤ n) → (F = rowF C (valF V n x) i) → (evP Bd (valF V n x) i) → (n - i) < fu2 → ∀ (H : Heap) (locs : List Loc), zw G A s ([(w0, zO 5 [.ref g, .ref fz, .ref ab, .ref ch, .ref pr, .ref bs, .ref rw0, .ref rs, .int (nI rk), .int (nI sup), .long (lN sm), .long (lN gs), .int (nI gc), .int (nI kw)]), (g, zO 2 [.ref av, .ref an, .int (nI n), .int st]), (av, zI G 12 (fun j => nI (V j))), (ab, zI G 12 (fun j => mI (Bd j))), (ch, zI G 12 (fun j => nI (F j))), (fz, zO 1 [.ref g, .ref bn, .ref bl, .int (nI nf), .int (nI ca)]), (bn, zF G 16 fB)] ++ pool G X 16) H locs → ∀ (ls : Array Slot), lv_has ls 4 [(2, .int (nI i)), (0, .ref w0), (1, .int (nI x))] → W p l e rm_We_weightOf s m args below meth c H locs 0 0 Q (F0 m 2 ls []) := by
    intro fu2
    induction fu2 with
    | zero =>
      intro i F hi hF hev hm2
      exact absurd hm2 (Nat.not_lt_zero _)
    | succ fu2 ih2 =>
      intro i F hi hF hev hm2 H locs w ls hl
      refine lv_iload_n hx hb dWe_weightOf_2 rfl (lv_at hl 0 rfl) ?_
      refine lv_aload_n hx hb dWe_weightOf_3 rfl (lv_at hl 1 rfl) ?_
      refine gf_We_32 Sf w.1 0 rfl rfl dWe_weightOf_4 ?_
      refine gf_We_50 Sf w.1 1 rfl rfl dWe_weightOf_7 ?_
      refine z_icmpge (tgt := 58) hx hb (by omega) (by omega) dWe_weightOf_10 (by decide) (fun c10 => ?_) (fun c10 => ?_)
      · skip
        have hin : i = n := by omega
        refine lv_aload_n hx hb dWe_weightOf_58 rfl (lv_at hl 1 rfl) ?_
        refine gf_We_36 Sf w.1 0 rfl rfl dWe_weightOf_59 ?_
        refine lv_aload_n hx hb dWe_weightOf_62 rfl (lv_at hl 1 rfl) ?_
        refine gf_We_15 Sf w.1 0 rfl rfl dWe_weightOf_63 ?_
        refine z_rV (As := [.ref ch]) (rest := []) Sf (c_Fs_productAt l G fz g bn bl nf ca fB X F ch (by first | assumption | omega) (by first | assumption | omega) (by first | assumption | omega) (by rw [hF, hin]; exact hE0)) mv_We_60 ⟨rfl, rfl⟩ ⟨Nat.le_of_ble_eq_true rfl, Nat.le_of_ble_eq_true rfl⟩ (zr.of_sub (ws' := ([(fz, zO 1 [.ref g, .ref bn, .ref bl, .int (nI nf), .int (nI ca)]), (bn, zF G 16 fB), (ch, zI G 12 (fun j => nI (F j)))] ++ pool G X 16)) w.1 (zsubT [5, 6, 4] rfl)) _ (zself _) 0 rfl rfl rfl rfl hl.1 rfl (Nat.le_of_ble_eq_true rfl) dWe_weightOf_66 ⟨Nat.le_of_ble_eq_true rfl, Nat.le_of_ble_eq_true rfl⟩ ?_
        exact hret _ _ _ _ F _ _ w (rfl) (trivial) dWe_weightOf_69 (by rw [zif_t (hin ▸ hev), hF, hin])
      · skip
        have hva := hV0 i (by omega)
        have hvl := valF_ltc (n := n) (x := x) hva.1
        have hbi := hBd i
        refine lv_aload_n hx hb dWe_weightOf_13 rfl (lv_at hl 1 rfl) ?_
        refine gf_We_32 Sf w.1 0 rfl rfl dWe_weightOf_14 ?_
        refine lv_iload_n hx hb dWe_weightOf_17 rfl (lv_at hl 2 rfl) ?_
        refine lv_iload_n hx hb dWe_weightOf_18 rfl (lv_at hl 0 rfl) ?_
        refine z_rV (As := [.int (nI x), .int (nI i)]) (rest := []) Sf (c_Graph_valueIn l G g av an n st V x i (by first | assumption | omega) (by first | assumption | omega) (by first | assumption | omega) hV0) mv_We_56 ⟨rfl, rfl⟩ ⟨Nat.le_of_ble_eq_true rfl, Nat.le_of_ble_eq_true rfl⟩ w.1 [1, 2] rfl 1 rfl rfl rfl rfl hl.1 rfl (Nat.le_of_ble_eq_true rfl) dWe_weightOf_19 ⟨Nat.le_of_ble_eq_true rfl, Nat.le_of_ble_eq_true rfl⟩ ?_
        refine lv_istore_n (lv' := [(3, .int (nI (valF V n x i))), (2, .int (nI i)), (0, .ref w0), (1, .int (nI x))]) hx hb dWe_weightOf_22 rfl hl (by decide) rfl (fun ls hl => ?_)
        refine lv_aload_n hx hb dWe_weightOf_23 rfl (lv_at hl 2 rfl) ?_
        refine gf_We_9 Sf w.1 0 rfl rfl dWe_weightOf_24 ?_
        refine lv_iload_n hx hb dWe_weightOf_27 rfl (lv_at hl 1 rfl) ?_
        refine z_iald hx hb w.1 3 (k := i) rfl (by omega) (by omega) dWe_weightOf_28 ?_
        refine lv_iconst (v := (mI 0)) hx hb dWe_weightOf_29 (by decide) ?_
        refine z_icmpeqMM (tgt := 45) hx hb (by omega) (by omega) dWe_weightOf_30 (by decide) (fun c30 => ?_) (fun c30 => ?_)
        · skip
          refine lv_aload_n hx hb dWe_weightOf_45 rfl (lv_at hl 2 rfl) ?_
          refine gf_We_15 Sf w.1 0 rfl rfl dWe_weightOf_46 ?_
          refine lv_iload_n hx hb dWe_weightOf_49 rfl (lv_at hl 1 rfl) ?_
          refine lv_iload_n hx hb dWe_weightOf_50 rfl (lv_at hl 0 rfl) ?_
          refine z_iastN hx hb w 4 (k := i) rfl (by omega) (by omega) (ws' := ([(w0, zO 5 [.ref g, .ref fz, .ref ab, .ref ch, .ref pr, .ref bs, .ref rw0, .ref rs, .int (nI rk), .int (nI sup), .long (lN sm), .long (lN gs), .int (nI gc), .int (nI kw)]), (g, zO 2 [.ref av, .ref an, .int (nI n), .int st]), (av, zI G 12 (fun j => nI (V j))), (ab, zI G 12 (fun j => mI (Bd j))), (ch, zI G 12 (fun j => nI ((va_up F i (valF V n x i)) j))), (fz, zO 1 [.ref g, .ref bn, .ref bl, .int (nI nf), .int (nI ca)]), (bn, zF G 16 fB)] ++ pool G X 16)) rfl dWe_weightOf_51 (fun H locs w => ?_)
          refine z_iinc (d := 1) (lv' := [(2, .int (nI (i + 1))), (3, .int (nI (valF V n x i))), (0, .ref w0), (1, .int (nI x))]) hx hb dWe_weightOf_52 hl (k := 1) rfl (by decide) (by decide) rfl (fun ls hl => ?_)
          refine lv_goto (tgt := 2) hx hb dWe_weightOf_55 (by decide) ?_
          refine ih2 (i + 1) (va_up F i (valF V n x i)) ?_ ?_ ?_ ?_ _ _ w ls (lv_sub hl [0, 2, 3] rfl)
          · omega
          · rw [hF]; exact rowF_s _ _ _
          · first | exact evP_s hev (Or.inl c30) | exact evP_s hev (Or.inr c40)
          · omega
        · skip
          refine lv_aload_n hx hb dWe_weightOf_33 rfl (lv_at hl 2 rfl) ?_
          refine gf_We_9 Sf w.1 0 rfl rfl dWe_weightOf_34 ?_
          refine lv_iload_n hx hb dWe_weightOf_37 rfl (lv_at hl 1 rfl) ?_
          refine z_iald hx hb w.1 3 (k := i) rfl (by omega) (by omega) dWe_weightOf_38 ?_
          refine lv_iload_n hx hb dWe_weightOf_39 rfl (lv_at hl 0 rfl) ?_
          refine z_icmpeqMN (tgt := 45) hx hb (by omega) (by omega) dWe_weightOf_40 (by decide) (fun c40 => ?_) (fun c40 => ?_)
          · skip
            refine lv_aload_n hx hb dWe_weightOf_45 rfl (lv_at hl 2 rfl) ?_
            refine gf_We_15 Sf w.1 0 rfl rfl dWe_weightOf_46 ?_
            refine lv_iload_n hx hb dWe_weightOf_49 rfl (lv_at hl 1 rfl) ?_
            refine lv_iload_n hx hb dWe_weightOf_50 rfl (lv_at hl 0 rfl) ?_
            refine z_iastN hx hb w 4 (k := i) rfl (by omega) (by omega) (ws' := ([(w0, zO 5 [.ref g, .ref fz, .ref ab, .ref ch, .ref pr, .ref bs, .ref rw0, .ref rs, .int (nI rk), .int (nI sup), .long (lN sm), .long (lN gs), .int (nI gc), .int (nI kw)]), (g, zO 2 [.ref av, .ref an, .int (nI n), .int st]), (av, zI G 12 (fun j => nI (V j))), (ab, zI G 12 (fun j => mI (Bd j))), (ch, zI G 12 (fun j => nI ((va_up F i (valF V n x i)) j))), (fz, zO 1 [.ref g, .ref bn, .ref bl, .int (nI nf), .int (nI ca)]), (bn, zF G 16 fB)] ++ pool G X 16)) rfl dWe_weightOf_51 (fun H locs w => ?_)
            refine z_iinc (d := 1) (lv' := [(2, .int (nI (i + 1))), (3, .int (nI (valF V n x i))), (0, .ref w0), (1, .int (nI x))]) hx hb dWe_weightOf_52 hl (k := 1) rfl (by decide) (by decide) rfl (fun ls hl => ?_)
            refine lv_goto (tgt := 2) hx hb dWe_weightOf_55 (by decide) ?_
            refine ih2 (i + 1) (va_up F i (valF V n x i)) ?_ ?_ ?_ ?_ _ _ w ls (lv_sub hl [0, 2, 3] rfl)
            · omega
            · rw [hF]; exact rowF_s _ _ _
            · first | exact evP_s hev (Or.inl c30) | exact evP_s hev (Or.inr c40)
            · omega
          · skip
            refine lv_lconst (v := lN 0) hx hb dWe_weightOf_43 (by decide) ?_
            exact hret _ _ _ _ F _ _ w (rfl) (trivial) dWe_weightOf_44 (by rw [zif_f (fun h => (h i (by omega)).elim c30 c40)])
  refine L2 ((n - 0) + 1) 0 C ?_ ?_ ?_ ?_ _ _ w ls (lv_sub hl [0, 1, 2] rfl)
  · omega
  · exact (rowF_0 _ _).symm
  · exact evP_0 _ _
  · exact Nat.lt_succ_self _
