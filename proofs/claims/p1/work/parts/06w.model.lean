def rm_Mo_order : Room := { frames := 4, cells := 0, slots := 0, locals := 175 }
set_option maxHeartbeats 4000000 in
set_option maxRecDepth 100000 in
theorem c_Mo_order (l : Launch) (G : zG) (m0 av ab apl ase aco aen aor aba ali ale ach ast atw ats : Nat) (n stt nf mem kd sl fi tp th : Nat) (V Pl Se Od Bg Li : Nat → Nat) (Le Ch : Nat → Nat) (x : Int32) (hn : n ≤ 12) (hnf : nf ≤ 16) (hV : ∀ j, V j ≤ 4) (hSe : ∀ i, Se i < 4096) (hLi : ∀ i, Li i < 4096) (hBg : ∀ i, Bg i < 4096) (hOd : ∀ i, Od i < 12) (hsl : sl ≤ 1) (hmem : mem ≤ 65536) (hLe : ∀ i, Le i ≤ 101) (hCh : ∀ i, Ch i ≤ 137438953472) (hPn : ∀ i, Pl i ≤ 12) (sz : Nat) : Met l yMo_order (.code yMo_order cMo_order 4 (some .int) :: zT) rm_Mo_order (zPw G [.ref m0, .int x] [(m0, zO 7 [.int (nI n), .ref av, .ref ab, .ref apl, .int (nI stt), .int (nI nf), .ref ase, .ref aco, .ref aen, .int (nI mem), .int (nI kd), .int (nI sl), .ref aor, .ref aba, .int (nI fi), .ref ali, .ref ale, .ref ach, .ref ast, .ref atw, .ref ats, .int (nI tp), .int (nI th)]), (av, zI G 12 (fun j => nI (V j))), (apl, zI G 12 (fun j => mI (Pl j))), (ase, zI G 16 (fun j => nI (Se j))), (aor, zI G 12 (fun j => nI (Od j))), (aba, zI G 12 (fun j => nI (Bg j))), (ali, zI G 12 (fun j => nI (Li j))), (ale, zI G 4096 (fun j => mI (Le j))), (ach, zL G 4096 (fun j => mL (Ch j)))] sz) (zQ (S := orT) G (fun u => some (.int (zif (inZ x.toInt64 (lN 0) (lN 5)) (zif (orOk n Pl x) (mI (wdF (orZ n nf V Pl Se Li Od Bg Le Ch (tn x)).2.2.1 n)) (-3)) (-2)))) (fun u => [(m0, zO 7 [.int (nI n), .ref av, .ref ab, .ref apl, .int (nI stt), .int (nI nf), .ref ase, .ref aco, .ref aen, .int (nI mem), .int (nI u.1.2.2.2.1), .int (nI u.1.2.2.2.2.2), .ref aor, .ref aba, .int (nI u.1.2.2.2.2.1), .ref ali, .ref ale, .ref ach, .ref ast, .ref atw, .ref ats, .int (nI tp), .int (nI 0)]), (av, zI G 12 (fun j => nI (V j))), (apl, zI G 12 (fun j => mI (Pl j))), (ase, zI G 16 (fun j => nI (Se j))), (aor, zI G 12 (fun j => nI (u.1.2.1 j))), (aba, zI G 12 (fun j => nI (u.1.2.2.1 j))), (ali, zI G 12 (fun j => nI (u.1.1 j))), (ale, zI G 4096 (fun j => mI (u.2.1 j))), (ach, zL G 4096 (fun j => mL (u.2.2 j)))]) (va_A [(m0, zO 7 [.int (nI n), .ref av, .ref ab, .ref apl, .int (nI stt), .int (nI nf), .ref ase, .ref aco, .ref aen, .int (nI mem), .int (nI kd), .int (nI sl), .ref aor, .ref aba, .int (nI fi), .ref ali, .ref ale, .ref ach, .ref ast, .ref atw, .ref ats, .int (nI tp), .int (nI th)]), (av, zI G 12 (fun j => nI (V j))), (apl, zI G 12 (fun j => mI (Pl j))), (ase, zI G 16 (fun j => nI (Se j))), (aor, zI G 12 (fun j => nI (Od j))), (aba, zI G 12 (fun j => nI (Bg j))), (ali, zI G 12 (fun j => nI (Li j))), (ale, zI G 4096 (fun j => mI (Le j))), (ach, zL G 4096 (fun j => mL (Ch j)))] sz) (fun u => orP n nf V Pl Se Li Od Bg Le Ch (Li, Od, Bg, kd, fi, sl) x u)) 0 0 (va_A [(m0, zO 7 [.int (nI n), .ref av, .ref ab, .ref apl, .int (nI stt), .int (nI nf), .ref ase, .ref aco, .ref aen, .int (nI mem), .int (nI kd), .int (nI sl), .ref aor, .ref aba, .int (nI fi), .ref ali, .ref ale, .ref ach, .ref ast, .ref atw, .ref ats, .int (nI tp), .int (nI th)]), (av, zI G 12 (fun j => nI (V j))), (apl, zI G 12 (fun j => mI (Pl j))), (ase, zI G 16 (fun j => nI (Se j))), (aor, zI G 12 (fun j => nI (Od j))), (aba, zI G 12 (fun j => nI (Bg j))), (ali, zI G 12 (fun j => nI (Li j))), (ale, zI G 4096 (fun j => mI (Le j))), (ach, zL G 4096 (fun j => mL (Ch j)))] sz) := by
  refine z_metWi (by decide) (Nat.le_of_ble_eq_true rfl) (fun p e s m args below meth c ls A Q Sf hnm w hl hret => ?_)
  obtain ⟨H, hH⟩ : ∃ H, H = s.heap := ⟨_, rfl⟩
  obtain ⟨locs, hlo⟩ : ∃ L : List Loc, L = [] := ⟨_, rfl⟩
  rw [← hH, ← hlo] at w
  rw [← hH, ← hlo]
  clear hH hlo
  have Sf : CallFix p m c cMo_order 4 s args zT RMo := Sf
  have hx := Sf.1
  have hb := Sf.2.1
  have hown := Sf.2.2.2.1
  have hts := Sf.2.2.2.2
  have hl : lv_has ls 4 [(0, .ref m0), (1, .int x)] := hl
  refine lv_aload_n hx hb dMo_order_0 rfl (lv_at hl 0 rfl) ?_
  refine lv_iconst (v := (nI 0)) hx hb dMo_order_1 (by decide) ?_
  refine pf_Mo_65 Sf w 0 rfl rfl rfl (Nat.le_of_ble_eq_true rfl) (ws' := [(m0, zO 7 [.int (nI n), .ref av, .ref ab, .ref apl, .int (nI stt), .int (nI nf), .ref ase, .ref aco, .ref aen, .int (nI mem), .int (nI kd), .int (nI sl), .ref aor, .ref aba, .int (nI fi), .ref ali, .ref ale, .ref ach, .ref ast, .ref atw, .ref ats, .int (nI tp), .int (nI 0)]), (av, zI G 12 (fun j => nI (V j))), (apl, zI G 12 (fun j => mI (Pl j))), (ase, zI G 16 (fun j => nI (Se j))), (aor, zI G 12 (fun j => nI (Od j))), (aba, zI G 12 (fun j => nI (Bg j))), (ali, zI G 12 (fun j => nI (Li j))), (ale, zI G 4096 (fun j => mI (Le j))), (ach, zL G 4096 (fun j => mL (Ch j)))]) rfl dMo_order_2 (fun H locs w => ?_)
  refine lv_iload_n hx hb dMo_order_5 rfl (lv_at hl 1 rfl) ?_
  refine lv_i2l hx hb dMo_order_6 rfl ?_
  refine lv_lconst (v := lN 0) hx hb dMo_order_7 (by decide) ?_
  refine lv_ldc2 (v := (lN 5)) hx hb hown (hts _ kc_Mo_147) dMo_order_8 ?_
  refine z_rS (As := [.long x.toInt64, .long (lN 0), .long (lN 5)]) (rest := []) Sf (c_Mo_in l G x.toInt64 (lN 0) (lN 5) ) mv_Mo_71 ⟨rfl, rfl⟩ ⟨Nat.le_of_ble_eq_true rfl, Nat.le_of_ble_eq_true rfl⟩ w.1 [] rfl rfl hl.1 rfl (Nat.le_of_ble_eq_true rfl) dMo_order_11 ⟨Nat.le_of_ble_eq_true rfl, Nat.le_of_ble_eq_true rfl⟩ ?_
  refine z_ifneB (tgt := 20) hx hb dMo_order_14 (by decide) (fun c14 => ?_) (fun c14 => ?_)
  · skip
    have c14b := c14
    obtain ⟨q, -, hq, rfl⟩ := in_nat (by decide) (by decide) c14
    rcases (show q = 0 ∨ q = 1 ∨ q = 2 ∨ q = 3 ∨ q = 4 ∨ q = 5 by omega) with rfl | rfl | rfl | rfl | rfl | rfl
    · skip
      refine lv_iload_n hx hb dMo_order_20 rfl (lv_at hl 1 rfl) ?_
      refine lv_iconst (v := (nI 1)) hx hb dMo_order_21 (by decide) ?_
      refine z_icmpne (tgt := 86) hx hb (by decide) (by decide) dMo_order_22 (by decide) (fun _ => ?_) (fun q => absurd q (by decide))
      have hok : orOk n Pl (nI 0) := ⟨c14b, fun q => absurd q (by decide)⟩
      refine lv_aload_n hx hb dMo_order_86 rfl (lv_at hl 0 rfl) ?_
      refine lv_iload_n hx hb dMo_order_87 rfl (lv_at hl 1 rfl) ?_
      refine z_wV (wr := [(ale, zI G 4096 (fun j => mI (Le j))), (ach, zL G 4096 (fun j => mL (Ch j)))]) (As := [.int (nI 0)]) (rest := []) Sf (c_Mo_work l G m0 av ab apl ase aco aen aor aba ali ale ach ast atw ats n stt nf mem kd sl fi tp 0 V Pl Se Od Bg Li 0 (by first | assumption | omega) (by first | assumption | omega) (by first | assumption | omega) (by first | assumption | omega) (by first | assumption | omega) (by decide) (fun q => by first | exact absurd q (by decide) | exact mt_all (hok.2 rfl)) H.size) mv_Mo_143 ⟨rfl, rfl⟩ ⟨Nat.le_of_ble_eq_true rfl, Nat.le_of_ble_eq_true rfl⟩ w [0, 1, 2, 3, 4, 5, 6] [7, 8] rfl rfl (by decide) (by decide) (by decide) 0 rfl rfl rfl rfl hl.1 rfl (Nat.le_of_ble_eq_true rfl) dMo_order_88 ⟨Nat.le_of_ble_eq_true rfl, Nat.le_of_ble_eq_true rfl⟩ (fun u1 H locs hu1 w => ?_)
      have w := w.eq (ws' := [(ale, zI G 4096 (fun j => mI (Le j))), (ach, zL G 4096 (fun j => mL (Ch j))), (m0, zO 7 [.int (nI n), .ref av, .ref ab, .ref apl, .int (nI stt), .int (nI nf), .ref ase, .ref aco, .ref aen, .int (nI mem), .int (nI 0), .int (nI 0), .ref aor, .ref aba, .int (nI ((wkZ 0 V Pl Se Li Od Bg n nf).2.2.2.2)), .ref ali, .ref ale, .ref ach, .ref ast, .ref atw, .ref ats, .int (nI tp), .int (nI 0)]), (av, zI G 12 (fun j => nI (V j))), (apl, zI G 12 (fun j => mI (Pl j))), (ase, zI G 16 (fun j => nI (Se j))), (aor, zI G 12 (fun j => nI (((wkZ 0 V Pl Se Li Od Bg n nf).2.2.1) j))), (aba, zI G 12 (fun j => nI (((wkZ 0 V Pl Se Li Od Bg n nf).2.2.2.1) j))), (ali, zI G 12 (fun j => nI (((wkZ 0 V Pl Se Li Od Bg n nf).1) j)))]) rfl
      refine W.eq (g2 := F0 m 91 ls []) rfl ?_
      have hbgw := (orB (nf := nf) (q := 0) (V := V) (Le := Le) (Ch := Ch) hn hSe hLi hOd hBg hPn (by decide)).2.2.1
      refine lv_aload_n hx hb dMo_order_91 rfl (lv_at hl 0 rfl) ?_
      refine z_rV (As := []) (rest := []) Sf (c_Mo_width l G m0 av ab apl ase aco aen aor aba ali ale ach ast atw ats n stt nf mem 0 0 ((wkZ 0 V Pl Se Li Od Bg n nf).2.2.2.2) tp 0 ((wkZ 0 V Pl Se Li Od Bg n nf).2.2.2.1) (by first | assumption | omega) hbgw) mv_Mo_149 ⟨rfl, rfl⟩ ⟨Nat.le_of_ble_eq_true rfl, Nat.le_of_ble_eq_true rfl⟩ w.1 [2, 7] rfl 2 rfl rfl rfl rfl hl.1 rfl (Nat.le_of_ble_eq_true rfl) dMo_order_92 ⟨Nat.le_of_ble_eq_true rfl, Nat.le_of_ble_eq_true rfl⟩ ?_
      exact hret _ _ _ _ (((wkZ 0 V Pl Se Li Od Bg n nf).1, (wkZ 0 V Pl Se Li Od Bg n nf).2.2.1, (wkZ 0 V Pl Se Li Od Bg n nf).2.2.2.1, 0, ((wkZ 0 V Pl Se Li Od Bg n nf).2.2.2.2), 0), Le, Ch) _ _ (w.perm [2, 3, 4, 5, 6, 7, 8, 0, 1] (by decide) rfl) (rfl) (⟨((zif_t hok).trans rfl).symm, orB (nf := nf) (q := 0) (V := V) (Le := Le) (Ch := Ch) hn hSe hLi hOd hBg hPn (by decide), hLe, hCh⟩) dMo_order_95 (by rw [zif_t c14b, zif_t hok]; rfl)
    · skip
      refine lv_iload_n hx hb dMo_order_20 rfl (lv_at hl 1 rfl) ?_
      refine lv_iconst (v := (nI 1)) hx hb dMo_order_21 (by decide) ?_
      refine z_icmpne (tgt := 86) hx hb (by decide) (by decide) dMo_order_22 (by decide) (fun q => absurd q (by decide)) (fun _ => ?_)
      refine lv_iconst (v := (nI 0)) hx hb dMo_order_25 (by decide) ?_
      refine lv_istore_n (lv' := [(2, .int (nI 0)), (0, .ref m0), (1, .int (nI 1))]) hx hb dMo_order_26 rfl hl (by decide) rfl (fun ls hl => ?_)
      refine lv_iconst (v := (nI 0)) hx hb dMo_order_27 (by decide) ?_
      refine lv_istore_n (lv' := [(3, .int (nI 0)), (2, .int (nI 0)), (0, .ref m0), (1, .int (nI 1))]) hx hb dMo_order_28 rfl hl (by decide) rfl (fun ls hl => ?_)
      have L29 : ∀ (fu29 : Nat) (i mt : Nat), (i ≤ n) → (mt = mtF Pl n i) → (n - i) < fu29 → ∀ (H : Heap) (locs : List Loc), zw G A s [(m0, zO 7 [.int (nI n), .ref av, .ref ab, .ref apl, .int (nI stt), .int (nI nf), .ref ase, .ref aco, .ref aen, .int (nI mem), .int (nI kd), .int (nI sl), .ref aor, .ref aba, .int (nI fi), .ref ali, .ref ale, .ref ach, .ref ast, .ref atw, .ref ats, .int (nI tp), .int (nI 0)]), (av, zI G 12 (fun j => nI (V j))), (apl, zI G 12 (fun j => mI (Pl j))), (ase, zI G 16 (fun j => nI (Se j))), (aor, zI G 12 (fun j => nI (Od j))), (aba, zI G 12 (fun j => nI (Bg j))), (ali, zI G 12 (fun j => nI (Li j))), (ale, zI G 4096 (fun j => mI (Le j))), (ach, zL G 4096 (fun j => mL (Ch j)))] H locs → ∀ (ls : Array Slot), lv_has ls 4 [(3, .int (nI i)), (2, .int (nI mt)), (0, .ref m0), (1, .int (nI 1))] → W p l e rm_Mo_order s m args below meth c H locs 0 0 Q (F0 m 29 ls []) := by
        intro fu29
        induction fu29 with
        | zero =>
          intro i mt hi hmt hm29
          exact absurd hm29 (Nat.not_lt_zero _)
        | succ fu29 ih29 =>
          intro i mt hi hmt hm29 H locs w ls hl
          refine lv_iload_n hx hb dMo_order_29 rfl (lv_at hl 0 rfl) ?_
          refine lv_aload_n hx hb dMo_order_30 rfl (lv_at hl 2 rfl) ?_
          refine gf_Mo_68 Sf w.1 0 rfl rfl dMo_order_31 ?_
          refine z_icmpge (tgt := 71) hx hb (by omega) (by omega) dMo_order_34 (by decide) (fun c34 => ?_) (fun c34 => ?_)
          · skip
            have hmtn : mt = mtF Pl n n := by
              obtain rfl : i = n := (by omega)
              exact hmt
            refine lv_iload_n hx hb dMo_order_71 rfl (lv_at hl 1 rfl) ?_
            refine lv_iconst (v := (nI 1)) hx hb dMo_order_72 (by decide) ?_
            refine lv_aload_n hx hb dMo_order_73 rfl (lv_at hl 2 rfl) ?_
            refine gf_Mo_68 Sf w.1 0 rfl rfl dMo_order_74 ?_
            refine z_shl1 hx hb (by omega) dMo_order_77 ?_
            refine lv_iconst (v := (nI 1)) hx hb dMo_order_78 (by decide) ?_
            refine z_subN hx hb Nat.one_le_two_pow dMo_order_79 ?_
            refine z_icmpeq (tgt := 86) hx hb (by have h1 := mtF_lt (Pl := Pl) (n := n) i; have h4 : 2 ^ n ≤ 4096 := Nat.pow_le_pow_right (by decide) hn; omega) (by have h4 : 2 ^ n ≤ 4096 := Nat.pow_le_pow_right (by decide) hn; omega) dMo_order_80 (by decide) (fun c80 => ?_) (fun c80 => ?_)
            · skip
              have hall : mtF Pl n n = 2 ^ n - 1 := by rw [← hmtn]; exact c80
              have hok : orOk n Pl (nI 1) := ⟨c14b, fun _ => hall⟩
              refine lv_aload_n hx hb dMo_order_86 rfl (lv_at hl 2 rfl) ?_
              refine lv_iload_n hx hb dMo_order_87 rfl (lv_at hl 3 rfl) ?_
              refine z_wV (wr := [(ale, zI G 4096 (fun j => mI (Le j))), (ach, zL G 4096 (fun j => mL (Ch j)))]) (As := [.int (nI 1)]) (rest := []) Sf (c_Mo_work l G m0 av ab apl ase aco aen aor aba ali ale ach ast atw ats n stt nf mem kd sl fi tp 0 V Pl Se Od Bg Li 1 (by first | assumption | omega) (by first | assumption | omega) (by first | assumption | omega) (by first | assumption | omega) (by first | assumption | omega) (by decide) (fun q => by first | exact absurd q (by decide) | exact mt_all (hok.2 rfl)) H.size) mv_Mo_143 ⟨rfl, rfl⟩ ⟨Nat.le_of_ble_eq_true rfl, Nat.le_of_ble_eq_true rfl⟩ w [0, 1, 2, 3, 4, 5, 6] [7, 8] rfl rfl (by decide) (by decide) (by decide) 0 rfl rfl rfl rfl hl.1 rfl (Nat.le_of_ble_eq_true rfl) dMo_order_88 ⟨Nat.le_of_ble_eq_true rfl, Nat.le_of_ble_eq_true rfl⟩ (fun u2 H locs hu2 w => ?_)
              have w := w.eq (ws' := [(ale, zI G 4096 (fun j => mI (Le j))), (ach, zL G 4096 (fun j => mL (Ch j))), (m0, zO 7 [.int (nI n), .ref av, .ref ab, .ref apl, .int (nI stt), .int (nI nf), .ref ase, .ref aco, .ref aen, .int (nI mem), .int (nI 1), .int (nI 0), .ref aor, .ref aba, .int (nI ((wkZ 1 V Pl Se Li Od Bg n nf).2.2.2.2)), .ref ali, .ref ale, .ref ach, .ref ast, .ref atw, .ref ats, .int (nI tp), .int (nI 0)]), (av, zI G 12 (fun j => nI (V j))), (apl, zI G 12 (fun j => mI (Pl j))), (ase, zI G 16 (fun j => nI (Se j))), (aor, zI G 12 (fun j => nI (((wkZ 1 V Pl Se Li Od Bg n nf).2.2.1) j))), (aba, zI G 12 (fun j => nI (((wkZ 1 V Pl Se Li Od Bg n nf).2.2.2.1) j))), (ali, zI G 12 (fun j => nI (((wkZ 1 V Pl Se Li Od Bg n nf).1) j)))]) rfl
              refine W.eq (g2 := F0 m 91 ls []) rfl ?_
              have hbgw := (orB (nf := nf) (q := 1) (V := V) (Le := Le) (Ch := Ch) hn hSe hLi hOd hBg hPn (by decide)).2.2.1
              refine lv_aload_n hx hb dMo_order_91 rfl (lv_at hl 2 rfl) ?_
              refine z_rV (As := []) (rest := []) Sf (c_Mo_width l G m0 av ab apl ase aco aen aor aba ali ale ach ast atw ats n stt nf mem 1 0 ((wkZ 1 V Pl Se Li Od Bg n nf).2.2.2.2) tp 0 ((wkZ 1 V Pl Se Li Od Bg n nf).2.2.2.1) (by first | assumption | omega) hbgw) mv_Mo_149 ⟨rfl, rfl⟩ ⟨Nat.le_of_ble_eq_true rfl, Nat.le_of_ble_eq_true rfl⟩ w.1 [2, 7] rfl 2 rfl rfl rfl rfl hl.1 rfl (Nat.le_of_ble_eq_true rfl) dMo_order_92 ⟨Nat.le_of_ble_eq_true rfl, Nat.le_of_ble_eq_true rfl⟩ ?_
              exact hret _ _ _ _ (((wkZ 1 V Pl Se Li Od Bg n nf).1, (wkZ 1 V Pl Se Li Od Bg n nf).2.2.1, (wkZ 1 V Pl Se Li Od Bg n nf).2.2.2.1, 1, ((wkZ 1 V Pl Se Li Od Bg n nf).2.2.2.2), 0), Le, Ch) _ _ (w.perm [2, 3, 4, 5, 6, 7, 8, 0, 1] (by decide) rfl) (rfl) (⟨((zif_t hok).trans rfl).symm, orB (nf := nf) (q := 1) (V := V) (Le := Le) (Ch := Ch) hn hSe hLi hOd hBg hPn (by decide), hLe, hCh⟩) dMo_order_95 (by rw [zif_t c14b, zif_t hok]; rfl)
            · skip
              have hno : ¬ orOk n Pl (nI 1) := fun h => c80 (by rw [hmtn]; exact h.2 rfl)
              refine lv_bipush (v := (-3)) hx hb dMo_order_83 (by decide) ?_
              exact hret _ _ _ _ ((Li, Od, Bg, kd, fi, sl), Le, Ch) _ _ w (rfl) (⟨(zif_f hno).symm, ⟨hLi, hOd, hBg, hsl⟩, hLe, hCh⟩) dMo_order_85 (by rw [zif_t c14b, zif_f hno])
          · skip
            refine lv_aload_n hx hb dMo_order_37 rfl (lv_at hl 2 rfl) ?_
            refine lv_aload_n hx hb dMo_order_38 rfl (lv_at hl 2 rfl) ?_
            refine gf_Mo_16 Sf w.1 0 rfl rfl dMo_order_39 ?_
            refine lv_iload_n hx hb dMo_order_42 rfl (lv_at hl 0 rfl) ?_
            refine z_iald hx hb w.1 2 (k := i) rfl (by omega) (by omega) dMo_order_43 ?_
            refine z_rV (As := [.int (mI (Pl i))]) (rest := []) Sf (c_Mo_isName l G m0 av ab apl ase aco aen aor aba ali ale ach ast atw ats n stt nf mem kd sl fi tp 0 (mI (Pl i)) (by first | assumption | omega)) mv_Mo_104 ⟨rfl, rfl⟩ ⟨Nat.le_of_ble_eq_true rfl, Nat.le_of_ble_eq_true rfl⟩ w.1 [0] rfl 0 rfl rfl rfl rfl hl.1 rfl (Nat.le_of_ble_eq_true rfl) dMo_order_44 ⟨Nat.le_of_ble_eq_true rfl, Nat.le_of_ble_eq_true rfl⟩ ?_
            refine z_ifeqB (tgt := 63) hx hb dMo_order_47 (by decide) (fun c47 => ?_) (fun c47 => ?_)
            · skip
              refine lv_iload_n hx hb dMo_order_63 rfl (lv_at hl 1 rfl) ?_
              refine lv_istore_n (lv' := [(2, .int (nI mt)), (3, .int (nI i)), (0, .ref m0), (1, .int (nI 1))]) hx hb dMo_order_64 rfl hl (by decide) rfl (fun ls hl => ?_)
              refine z_iinc (d := 1) (lv' := [(3, .int (nI (i + 1))), (2, .int (nI mt)), (0, .ref m0), (1, .int (nI 1))]) hx hb dMo_order_65 hl (k := 1) rfl (by decide) (by decide) rfl (fun ls hl => ?_)
              refine lv_goto (tgt := 29) hx hb dMo_order_68 (by decide) ?_
              refine ih29 (i + 1) _ ?_ ?_ ?_ _ _ w ls (lv_sub hl [0, 1, 2, 3] rfl)
              · omega
              · first | (rw [mtF_t hp (by omega), hmt]; done) | (rw [mtF_f (fun h => c47 ((kn_m (by have := hPn i; omega) (by omega)).mpr h)), hmt])
              · omega
            · skip
              obtain ⟨hp0, hp1⟩ := (kn_m (by have := hPn i; omega) (by omega)).mp c47
              obtain ⟨p2, hp⟩ : ∃ p2, Pl i = p2 + 1 := ⟨Pl i - 1, by omega⟩
              refine lv_iload_n hx hb dMo_order_50 rfl (lv_at hl 1 rfl) ?_
              refine lv_iconst (v := (nI 1)) hx hb dMo_order_51 (by decide) ?_
              refine lv_aload_n hx hb dMo_order_52 rfl (lv_at hl 2 rfl) ?_
              refine gf_Mo_16 Sf w.1 0 rfl rfl dMo_order_53 ?_
              refine lv_iload_n hx hb dMo_order_56 rfl (lv_at hl 0 rfl) ?_
              refine z_iald hx hb w.1 2 (k := i) rfl (by omega) (by omega) dMo_order_57 ?_
              rw [hp, mI_s]
              refine z_shl1 hx hb (by omega) dMo_order_58 ?_
              refine z_orN hx hb dMo_order_59 ?_
              refine lv_goto (tgt := 64) hx hb dMo_order_60 (by decide) ?_
              refine lv_istore_n (lv' := [(2, .int (nI (mt ||| (2 ^ p2)))), (3, .int (nI i)), (0, .ref m0), (1, .int (nI 1))]) hx hb dMo_order_64 rfl hl (by decide) rfl (fun ls hl => ?_)
              refine z_iinc (d := 1) (lv' := [(3, .int (nI (i + 1))), (2, .int (nI (mt ||| (2 ^ p2)))), (0, .ref m0), (1, .int (nI 1))]) hx hb dMo_order_65 hl (k := 1) rfl (by decide) (by decide) rfl (fun ls hl => ?_)
              refine lv_goto (tgt := 29) hx hb dMo_order_68 (by decide) ?_
              refine ih29 (i + 1) (mt ||| (2 ^ p2)) ?_ ?_ ?_ _ _ w ls (lv_sub hl [0, 1, 2, 3] rfl)
              · omega
              · first | (rw [mtF_t hp (by omega), hmt]; done) | (rw [mtF_f (fun h => c47 ((kn_m (by have := hPn i; omega) (by omega)).mpr h)), hmt])
              · omega
      refine L29 ((n - 0) + 1) 0 0 ?_ ?_ ?_ _ _ w ls (lv_sub hl [0, 1, 2, 3] rfl)
      · omega
      · rfl
      · exact Nat.lt_succ_self _
    · skip
      refine lv_iload_n hx hb dMo_order_20 rfl (lv_at hl 1 rfl) ?_
      refine lv_iconst (v := (nI 1)) hx hb dMo_order_21 (by decide) ?_
      refine z_icmpne (tgt := 86) hx hb (by decide) (by decide) dMo_order_22 (by decide) (fun _ => ?_) (fun q => absurd q (by decide))
      have hok : orOk n Pl (nI 2) := ⟨c14b, fun q => absurd q (by decide)⟩
      refine lv_aload_n hx hb dMo_order_86 rfl (lv_at hl 0 rfl) ?_
      refine lv_iload_n hx hb dMo_order_87 rfl (lv_at hl 1 rfl) ?_
      refine z_wV (wr := [(ale, zI G 4096 (fun j => mI (Le j))), (ach, zL G 4096 (fun j => mL (Ch j)))]) (As := [.int (nI 2)]) (rest := []) Sf (c_Mo_work l G m0 av ab apl ase aco aen aor aba ali ale ach ast atw ats n stt nf mem kd sl fi tp 0 V Pl Se Od Bg Li 2 (by first | assumption | omega) (by first | assumption | omega) (by first | assumption | omega) (by first | assumption | omega) (by first | assumption | omega) (by decide) (fun q => by first | exact absurd q (by decide) | exact mt_all (hok.2 rfl)) H.size) mv_Mo_143 ⟨rfl, rfl⟩ ⟨Nat.le_of_ble_eq_true rfl, Nat.le_of_ble_eq_true rfl⟩ w [0, 1, 2, 3, 4, 5, 6] [7, 8] rfl rfl (by decide) (by decide) (by decide) 0 rfl rfl rfl rfl hl.1 rfl (Nat.le_of_ble_eq_true rfl) dMo_order_88 ⟨Nat.le_of_ble_eq_true rfl, Nat.le_of_ble_eq_true rfl⟩ (fun u3 H locs hu3 w => ?_)
      have w := w.eq (ws' := [(ale, zI G 4096 (fun j => mI (Le j))), (ach, zL G 4096 (fun j => mL (Ch j))), (m0, zO 7 [.int (nI n), .ref av, .ref ab, .ref apl, .int (nI stt), .int (nI nf), .ref ase, .ref aco, .ref aen, .int (nI mem), .int (nI 2), .int (nI 0), .ref aor, .ref aba, .int (nI ((wkZ 2 V Pl Se Li Od Bg n nf).2.2.2.2)), .ref ali, .ref ale, .ref ach, .ref ast, .ref atw, .ref ats, .int (nI tp), .int (nI 0)]), (av, zI G 12 (fun j => nI (V j))), (apl, zI G 12 (fun j => mI (Pl j))), (ase, zI G 16 (fun j => nI (Se j))), (aor, zI G 12 (fun j => nI (((wkZ 2 V Pl Se Li Od Bg n nf).2.2.1) j))), (aba, zI G 12 (fun j => nI (((wkZ 2 V Pl Se Li Od Bg n nf).2.2.2.1) j))), (ali, zI G 12 (fun j => nI (((wkZ 2 V Pl Se Li Od Bg n nf).1) j)))]) rfl
      refine W.eq (g2 := F0 m 91 ls []) rfl ?_
      have hbgw := (orB (nf := nf) (q := 2) (V := V) (Le := Le) (Ch := Ch) hn hSe hLi hOd hBg hPn (by decide)).2.2.1
      refine lv_aload_n hx hb dMo_order_91 rfl (lv_at hl 0 rfl) ?_
      refine z_rV (As := []) (rest := []) Sf (c_Mo_width l G m0 av ab apl ase aco aen aor aba ali ale ach ast atw ats n stt nf mem 2 0 ((wkZ 2 V Pl Se Li Od Bg n nf).2.2.2.2) tp 0 ((wkZ 2 V Pl Se Li Od Bg n nf).2.2.2.1) (by first | assumption | omega) hbgw) mv_Mo_149 ⟨rfl, rfl⟩ ⟨Nat.le_of_ble_eq_true rfl, Nat.le_of_ble_eq_true rfl⟩ w.1 [2, 7] rfl 2 rfl rfl rfl rfl hl.1 rfl (Nat.le_of_ble_eq_true rfl) dMo_order_92 ⟨Nat.le_of_ble_eq_true rfl, Nat.le_of_ble_eq_true rfl⟩ ?_
      exact hret _ _ _ _ (((wkZ 2 V Pl Se Li Od Bg n nf).1, (wkZ 2 V Pl Se Li Od Bg n nf).2.2.1, (wkZ 2 V Pl Se Li Od Bg n nf).2.2.2.1, 2, ((wkZ 2 V Pl Se Li Od Bg n nf).2.2.2.2), 0), Le, Ch) _ _ (w.perm [2, 3, 4, 5, 6, 7, 8, 0, 1] (by decide) rfl) (rfl) (⟨((zif_t hok).trans rfl).symm, orB (nf := nf) (q := 2) (V := V) (Le := Le) (Ch := Ch) hn hSe hLi hOd hBg hPn (by decide), hLe, hCh⟩) dMo_order_95 (by rw [zif_t c14b, zif_t hok]; rfl)
    · skip
      refine lv_iload_n hx hb dMo_order_20 rfl (lv_at hl 1 rfl) ?_
      refine lv_iconst (v := (nI 1)) hx hb dMo_order_21 (by decide) ?_
      refine z_icmpne (tgt := 86) hx hb (by decide) (by decide) dMo_order_22 (by decide) (fun _ => ?_) (fun q => absurd q (by decide))
      have hok : orOk n Pl (nI 3) := ⟨c14b, fun q => absurd q (by decide)⟩
      refine lv_aload_n hx hb dMo_order_86 rfl (lv_at hl 0 rfl) ?_
      refine lv_iload_n hx hb dMo_order_87 rfl (lv_at hl 1 rfl) ?_
      refine z_wV (wr := [(ale, zI G 4096 (fun j => mI (Le j))), (ach, zL G 4096 (fun j => mL (Ch j)))]) (As := [.int (nI 3)]) (rest := []) Sf (c_Mo_work l G m0 av ab apl ase aco aen aor aba ali ale ach ast atw ats n stt nf mem kd sl fi tp 0 V Pl Se Od Bg Li 3 (by first | assumption | omega) (by first | assumption | omega) (by first | assumption | omega) (by first | assumption | omega) (by first | assumption | omega) (by decide) (fun q => by first | exact absurd q (by decide) | exact mt_all (hok.2 rfl)) H.size) mv_Mo_143 ⟨rfl, rfl⟩ ⟨Nat.le_of_ble_eq_true rfl, Nat.le_of_ble_eq_true rfl⟩ w [0, 1, 2, 3, 4, 5, 6] [7, 8] rfl rfl (by decide) (by decide) (by decide) 0 rfl rfl rfl rfl hl.1 rfl (Nat.le_of_ble_eq_true rfl) dMo_order_88 ⟨Nat.le_of_ble_eq_true rfl, Nat.le_of_ble_eq_true rfl⟩ (fun u4 H locs hu4 w => ?_)
      have w := w.eq (ws' := [(ale, zI G 4096 (fun j => mI (Le j))), (ach, zL G 4096 (fun j => mL (Ch j))), (m0, zO 7 [.int (nI n), .ref av, .ref ab, .ref apl, .int (nI stt), .int (nI nf), .ref ase, .ref aco, .ref aen, .int (nI mem), .int (nI 3), .int (nI 0), .ref aor, .ref aba, .int (nI ((wkZ 3 V Pl Se Li Od Bg n nf).2.2.2.2)), .ref ali, .ref ale, .ref ach, .ref ast, .ref atw, .ref ats, .int (nI tp), .int (nI 0)]), (av, zI G 12 (fun j => nI (V j))), (apl, zI G 12 (fun j => mI (Pl j))), (ase, zI G 16 (fun j => nI (Se j))), (aor, zI G 12 (fun j => nI (((wkZ 3 V Pl Se Li Od Bg n nf).2.2.1) j))), (aba, zI G 12 (fun j => nI (((wkZ 3 V Pl Se Li Od Bg n nf).2.2.2.1) j))), (ali, zI G 12 (fun j => nI (((wkZ 3 V Pl Se Li Od Bg n nf).1) j)))]) rfl
      refine W.eq (g2 := F0 m 91 ls []) rfl ?_
      have hbgw := (orB (nf := nf) (q := 3) (V := V) (Le := Le) (Ch := Ch) hn hSe hLi hOd hBg hPn (by decide)).2.2.1
      refine lv_aload_n hx hb dMo_order_91 rfl (lv_at hl 0 rfl) ?_
      refine z_rV (As := []) (rest := []) Sf (c_Mo_width l G m0 av ab apl ase aco aen aor aba ali ale ach ast atw ats n stt nf mem 3 0 ((wkZ 3 V Pl Se Li Od Bg n nf).2.2.2.2) tp 0 ((wkZ 3 V Pl Se Li Od Bg n nf).2.2.2.1) (by first | assumption | omega) hbgw) mv_Mo_149 ⟨rfl, rfl⟩ ⟨Nat.le_of_ble_eq_true rfl, Nat.le_of_ble_eq_true rfl⟩ w.1 [2, 7] rfl 2 rfl rfl rfl rfl hl.1 rfl (Nat.le_of_ble_eq_true rfl) dMo_order_92 ⟨Nat.le_of_ble_eq_true rfl, Nat.le_of_ble_eq_true rfl⟩ ?_
      exact hret _ _ _ _ (((wkZ 3 V Pl Se Li Od Bg n nf).1, (wkZ 3 V Pl Se Li Od Bg n nf).2.2.1, (wkZ 3 V Pl Se Li Od Bg n nf).2.2.2.1, 3, ((wkZ 3 V Pl Se Li Od Bg n nf).2.2.2.2), 0), Le, Ch) _ _ (w.perm [2, 3, 4, 5, 6, 7, 8, 0, 1] (by decide) rfl) (rfl) (⟨((zif_t hok).trans rfl).symm, orB (nf := nf) (q := 3) (V := V) (Le := Le) (Ch := Ch) hn hSe hLi hOd hBg hPn (by decide), hLe, hCh⟩) dMo_order_95 (by rw [zif_t c14b, zif_t hok]; rfl)
    · skip
      refine lv_iload_n hx hb dMo_order_20 rfl (lv_at hl 1 rfl) ?_
      refine lv_iconst (v := (nI 1)) hx hb dMo_order_21 (by decide) ?_
      refine z_icmpne (tgt := 86) hx hb (by decide) (by decide) dMo_order_22 (by decide) (fun _ => ?_) (fun q => absurd q (by decide))
      have hok : orOk n Pl (nI 4) := ⟨c14b, fun q => absurd q (by decide)⟩
      refine lv_aload_n hx hb dMo_order_86 rfl (lv_at hl 0 rfl) ?_
      refine lv_iload_n hx hb dMo_order_87 rfl (lv_at hl 1 rfl) ?_
      refine z_wV (wr := [(ale, zI G 4096 (fun j => mI (Le j))), (ach, zL G 4096 (fun j => mL (Ch j)))]) (As := [.int (nI 4)]) (rest := []) Sf (c_Mo_work l G m0 av ab apl ase aco aen aor aba ali ale ach ast atw ats n stt nf mem kd sl fi tp 0 V Pl Se Od Bg Li 4 (by first | assumption | omega) (by first | assumption | omega) (by first | assumption | omega) (by first | assumption | omega) (by first | assumption | omega) (by decide) (fun q => by first | exact absurd q (by decide) | exact mt_all (hok.2 rfl)) H.size) mv_Mo_143 ⟨rfl, rfl⟩ ⟨Nat.le_of_ble_eq_true rfl, Nat.le_of_ble_eq_true rfl⟩ w [0, 1, 2, 3, 4, 5, 6] [7, 8] rfl rfl (by decide) (by decide) (by decide) 0 rfl rfl rfl rfl hl.1 rfl (Nat.le_of_ble_eq_true rfl) dMo_order_88 ⟨Nat.le_of_ble_eq_true rfl, Nat.le_of_ble_eq_true rfl⟩ (fun u5 H locs hu5 w => ?_)
      have w := w.eq (ws' := [(ale, zI G 4096 (fun j => mI (Le j))), (ach, zL G 4096 (fun j => mL (Ch j))), (m0, zO 7 [.int (nI n), .ref av, .ref ab, .ref apl, .int (nI stt), .int (nI nf), .ref ase, .ref aco, .ref aen, .int (nI mem), .int (nI 4), .int (nI 0), .ref aor, .ref aba, .int (nI ((wkZ 4 V Pl Se Li Od Bg n nf).2.2.2.2)), .ref ali, .ref ale, .ref ach, .ref ast, .ref atw, .ref ats, .int (nI tp), .int (nI 0)]), (av, zI G 12 (fun j => nI (V j))), (apl, zI G 12 (fun j => mI (Pl j))), (ase, zI G 16 (fun j => nI (Se j))), (aor, zI G 12 (fun j => nI (((wkZ 4 V Pl Se Li Od Bg n nf).2.2.1) j))), (aba, zI G 12 (fun j => nI (((wkZ 4 V Pl Se Li Od Bg n nf).2.2.2.1) j))), (ali, zI G 12 (fun j => nI (((wkZ 4 V Pl Se Li Od Bg n nf).1) j)))]) rfl
      refine W.eq (g2 := F0 m 91 ls []) rfl ?_
      have hbgw := (orB (nf := nf) (q := 4) (V := V) (Le := Le) (Ch := Ch) hn hSe hLi hOd hBg hPn (by decide)).2.2.1
      refine lv_aload_n hx hb dMo_order_91 rfl (lv_at hl 0 rfl) ?_
      refine z_rV (As := []) (rest := []) Sf (c_Mo_width l G m0 av ab apl ase aco aen aor aba ali ale ach ast atw ats n stt nf mem 4 0 ((wkZ 4 V Pl Se Li Od Bg n nf).2.2.2.2) tp 0 ((wkZ 4 V Pl Se Li Od Bg n nf).2.2.2.1) (by first | assumption | omega) hbgw) mv_Mo_149 ⟨rfl, rfl⟩ ⟨Nat.le_of_ble_eq_true rfl, Nat.le_of_ble_eq_true rfl⟩ w.1 [2, 7] rfl 2 rfl rfl rfl rfl hl.1 rfl (Nat.le_of_ble_eq_true rfl) dMo_order_92 ⟨Nat.le_of_ble_eq_true rfl, Nat.le_of_ble_eq_true rfl⟩ ?_
      exact hret _ _ _ _ (((wkZ 4 V Pl Se Li Od Bg n nf).1, (wkZ 4 V Pl Se Li Od Bg n nf).2.2.1, (wkZ 4 V Pl Se Li Od Bg n nf).2.2.2.1, 4, ((wkZ 4 V Pl Se Li Od Bg n nf).2.2.2.2), 0), Le, Ch) _ _ (w.perm [2, 3, 4, 5, 6, 7, 8, 0, 1] (by decide) rfl) (rfl) (⟨((zif_t hok).trans rfl).symm, orB (nf := nf) (q := 4) (V := V) (Le := Le) (Ch := Ch) hn hSe hLi hOd hBg hPn (by decide), hLe, hCh⟩) dMo_order_95 (by rw [zif_t c14b, zif_t hok]; rfl)
    · skip
      refine lv_iload_n hx hb dMo_order_20 rfl (lv_at hl 1 rfl) ?_
      refine lv_iconst (v := (nI 1)) hx hb dMo_order_21 (by decide) ?_
      refine z_icmpne (tgt := 86) hx hb (by decide) (by decide) dMo_order_22 (by decide) (fun _ => ?_) (fun q => absurd q (by decide))
      have hok : orOk n Pl (nI 5) := ⟨c14b, fun q => absurd q (by decide)⟩
      refine lv_aload_n hx hb dMo_order_86 rfl (lv_at hl 0 rfl) ?_
      refine lv_iload_n hx hb dMo_order_87 rfl (lv_at hl 1 rfl) ?_
      refine z_wV (wr := [(apl, zI G 12 (fun j => mI (Pl j)))]) (As := [.int (nI 5)]) (rest := []) Sf (c_Mo_work5 l G m0 av ab apl ase aco aen aor aba ali ale ach ast atw ats n stt nf mem kd sl fi tp 0 V Se Od Bg Li Le Ch (by first | assumption | omega) (by first | assumption | omega) (by first | assumption | omega) (by first | assumption | omega) (by first | assumption | omega) (by first | assumption | omega) (by first | assumption | omega) H.size) mv_Mo_143 ⟨rfl, rfl⟩ ⟨Nat.le_of_ble_eq_true rfl, Nat.le_of_ble_eq_true rfl⟩ w [0, 1, 3, 4, 5, 6, 7, 8] [2] rfl rfl (by decide) (by decide) (by decide) 0 rfl rfl rfl rfl hl.1 rfl (Nat.le_of_ble_eq_true rfl) dMo_order_88 ⟨Nat.le_of_ble_eq_true rfl, Nat.le_of_ble_eq_true rfl⟩ (fun u6 H locs hu6 w => ?_)
      have w := w.eq (ws' := [(apl, zI G 12 (fun j => mI (Pl j))), (m0, zO 7 [.int (nI n), .ref av, .ref ab, .ref apl, .int (nI stt), .int (nI nf), .ref ase, .ref aco, .ref aen, .int (nI mem), .int (nI 5), .int (nI 0), .ref aor, .ref aba, .int (nI ((wkF 1 V (fun i => (ob5 V (rowF Li (drF Se nf) n) (chA V (rowF Li (drF Se nf) n) Ch n ((lwA (rowF Li (drF Se nf) n) Le n (2 ^ n - 1)) 0) (2 ^ n - 1)) Od n ((lwA (rowF Li (drF Se nf) n) Le n (2 ^ n - 1)) 0) n).2 i + 1) n (rowF Li (drF Se nf) n, 0, (ob5 V (rowF Li (drF Se nf) n) (chA V (rowF Li (drF Se nf) n) Ch n ((lwA (rowF Li (drF Se nf) n) Le n (2 ^ n - 1)) 0) (2 ^ n - 1)) Od n ((lwA (rowF Li (drF Se nf) n) Le n (2 ^ n - 1)) 0) n).2, Bg, 0) n).2.2.2.2)), .ref ali, .ref ale, .ref ach, .ref ast, .ref atw, .ref ats, .int (nI tp), .int (nI 0)]), (av, zI G 12 (fun j => nI (V j))), (ase, zI G 16 (fun j => nI (Se j))), (aor, zI G 12 (fun j => nI (((ob5 V (rowF Li (drF Se nf) n) (chA V (rowF Li (drF Se nf) n) Ch n ((lwA (rowF Li (drF Se nf) n) Le n (2 ^ n - 1)) 0) (2 ^ n - 1)) Od n ((lwA (rowF Li (drF Se nf) n) Le n (2 ^ n - 1)) 0) n).2) j))), (aba, zI G 12 (fun j => nI (((wkF 1 V (fun i => (ob5 V (rowF Li (drF Se nf) n) (chA V (rowF Li (drF Se nf) n) Ch n ((lwA (rowF Li (drF Se nf) n) Le n (2 ^ n - 1)) 0) (2 ^ n - 1)) Od n ((lwA (rowF Li (drF Se nf) n) Le n (2 ^ n - 1)) 0) n).2 i + 1) n (rowF Li (drF Se nf) n, 0, (ob5 V (rowF Li (drF Se nf) n) (chA V (rowF Li (drF Se nf) n) Ch n ((lwA (rowF Li (drF Se nf) n) Le n (2 ^ n - 1)) 0) (2 ^ n - 1)) Od n ((lwA (rowF Li (drF Se nf) n) Le n (2 ^ n - 1)) 0) n).2, Bg, 0) n).2.2.2.1) j))), (ali, zI G 12 (fun j => nI (((wkF 1 V (fun i => (ob5 V (rowF Li (drF Se nf) n) (chA V (rowF Li (drF Se nf) n) Ch n ((lwA (rowF Li (drF Se nf) n) Le n (2 ^ n - 1)) 0) (2 ^ n - 1)) Od n ((lwA (rowF Li (drF Se nf) n) Le n (2 ^ n - 1)) 0) n).2 i + 1) n (rowF Li (drF Se nf) n, 0, (ob5 V (rowF Li (drF Se nf) n) (chA V (rowF Li (drF Se nf) n) Ch n ((lwA (rowF Li (drF Se nf) n) Le n (2 ^ n - 1)) 0) (2 ^ n - 1)) Od n ((lwA (rowF Li (drF Se nf) n) Le n (2 ^ n - 1)) 0) n).2, Bg, 0) n).1) j))), (ale, zI G 4096 (fun j => mI ((lwA (rowF Li (drF Se nf) n) Le n (2 ^ n - 1)) j))), (ach, zL G 4096 (fun j => mL ((chA V (rowF Li (drF Se nf) n) Ch n ((lwA (rowF Li (drF Se nf) n) Le n (2 ^ n - 1)) 0) (2 ^ n - 1)) j)))]) rfl
      refine W.eq (g2 := F0 m 91 ls []) rfl ?_
      have hu5 := hu6
      have hbgw := (orB5 (Pl := Pl) (Bg := Bg) hn hSe hLi hOd hBg hu5).2.2.1
      refine lv_aload_n hx hb dMo_order_91 rfl (lv_at hl 0 rfl) ?_
      refine z_rV (As := []) (rest := []) Sf (c_Mo_width l G m0 av ab apl ase aco aen aor aba ali ale ach ast atw ats n stt nf mem 5 0 ((wkF 1 V (fun i => (ob5 V (rowF Li (drF Se nf) n) (chA V (rowF Li (drF Se nf) n) Ch n ((lwA (rowF Li (drF Se nf) n) Le n (2 ^ n - 1)) 0) (2 ^ n - 1)) Od n ((lwA (rowF Li (drF Se nf) n) Le n (2 ^ n - 1)) 0) n).2 i + 1) n (rowF Li (drF Se nf) n, 0, (ob5 V (rowF Li (drF Se nf) n) (chA V (rowF Li (drF Se nf) n) Ch n ((lwA (rowF Li (drF Se nf) n) Le n (2 ^ n - 1)) 0) (2 ^ n - 1)) Od n ((lwA (rowF Li (drF Se nf) n) Le n (2 ^ n - 1)) 0) n).2, Bg, 0) n).2.2.2.2) tp 0 ((wkF 1 V (fun i => (ob5 V (rowF Li (drF Se nf) n) (chA V (rowF Li (drF Se nf) n) Ch n ((lwA (rowF Li (drF Se nf) n) Le n (2 ^ n - 1)) 0) (2 ^ n - 1)) Od n ((lwA (rowF Li (drF Se nf) n) Le n (2 ^ n - 1)) 0) n).2 i + 1) n (rowF Li (drF Se nf) n, 0, (ob5 V (rowF Li (drF Se nf) n) (chA V (rowF Li (drF Se nf) n) Ch n ((lwA (rowF Li (drF Se nf) n) Le n (2 ^ n - 1)) 0) (2 ^ n - 1)) Od n ((lwA (rowF Li (drF Se nf) n) Le n (2 ^ n - 1)) 0) n).2, Bg, 0) n).2.2.2.1) (by first | assumption | omega) hbgw) mv_Mo_149 ⟨rfl, rfl⟩ ⟨Nat.le_of_ble_eq_true rfl, Nat.le_of_ble_eq_true rfl⟩ w.1 [1, 5] rfl 1 rfl rfl rfl rfl hl.1 rfl (Nat.le_of_ble_eq_true rfl) dMo_order_92 ⟨Nat.le_of_ble_eq_true rfl, Nat.le_of_ble_eq_true rfl⟩ ?_
      exact hret _ _ _ _ (((wkF 1 V (fun i => (ob5 V (rowF Li (drF Se nf) n) (chA V (rowF Li (drF Se nf) n) Ch n ((lwA (rowF Li (drF Se nf) n) Le n (2 ^ n - 1)) 0) (2 ^ n - 1)) Od n ((lwA (rowF Li (drF Se nf) n) Le n (2 ^ n - 1)) 0) n).2 i + 1) n (rowF Li (drF Se nf) n, 0, (ob5 V (rowF Li (drF Se nf) n) (chA V (rowF Li (drF Se nf) n) Ch n ((lwA (rowF Li (drF Se nf) n) Le n (2 ^ n - 1)) 0) (2 ^ n - 1)) Od n ((lwA (rowF Li (drF Se nf) n) Le n (2 ^ n - 1)) 0) n).2, Bg, 0) n).1, (ob5 V (rowF Li (drF Se nf) n) (chA V (rowF Li (drF Se nf) n) Ch n ((lwA (rowF Li (drF Se nf) n) Le n (2 ^ n - 1)) 0) (2 ^ n - 1)) Od n ((lwA (rowF Li (drF Se nf) n) Le n (2 ^ n - 1)) 0) n).2, (wkF 1 V (fun i => (ob5 V (rowF Li (drF Se nf) n) (chA V (rowF Li (drF Se nf) n) Ch n ((lwA (rowF Li (drF Se nf) n) Le n (2 ^ n - 1)) 0) (2 ^ n - 1)) Od n ((lwA (rowF Li (drF Se nf) n) Le n (2 ^ n - 1)) 0) n).2 i + 1) n (rowF Li (drF Se nf) n, 0, (ob5 V (rowF Li (drF Se nf) n) (chA V (rowF Li (drF Se nf) n) Ch n ((lwA (rowF Li (drF Se nf) n) Le n (2 ^ n - 1)) 0) (2 ^ n - 1)) Od n ((lwA (rowF Li (drF Se nf) n) Le n (2 ^ n - 1)) 0) n).2, Bg, 0) n).2.2.2.1, 5, ((wkF 1 V (fun i => (ob5 V (rowF Li (drF Se nf) n) (chA V (rowF Li (drF Se nf) n) Ch n ((lwA (rowF Li (drF Se nf) n) Le n (2 ^ n - 1)) 0) (2 ^ n - 1)) Od n ((lwA (rowF Li (drF Se nf) n) Le n (2 ^ n - 1)) 0) n).2 i + 1) n (rowF Li (drF Se nf) n, 0, (ob5 V (rowF Li (drF Se nf) n) (chA V (rowF Li (drF Se nf) n) Ch n ((lwA (rowF Li (drF Se nf) n) Le n (2 ^ n - 1)) 0) (2 ^ n - 1)) Od n ((lwA (rowF Li (drF Se nf) n) Le n (2 ^ n - 1)) 0) n).2, Bg, 0) n).2.2.2.2), 0), lwA (rowF Li (drF Se nf) n) Le n (2 ^ n - 1), chA V (rowF Li (drF Se nf) n) Ch n ((lwA (rowF Li (drF Se nf) n) Le n (2 ^ n - 1)) 0) (2 ^ n - 1)) _ _ (w.perm [1, 2, 0, 3, 4, 5, 6, 7, 8] (by decide) rfl) (rfl) (⟨((zif_t hok).trans rfl).symm, orB5 (Pl := Pl) hn hSe hLi hOd hBg hu5, lwA_le hLe _, ch_b hV hn hCh⟩) dMo_order_95 (by rw [zif_t c14b, zif_t hok]; rfl)
  · skip
    have hno : ¬ orOk n Pl x := fun h => c14 h.1
    refine lv_bipush (v := (-2)) hx hb dMo_order_17 (by decide) ?_
    exact hret _ _ _ _ ((Li, Od, Bg, kd, fi, sl), Le, Ch) _ _ w (rfl) (⟨(zif_f hno).symm, ⟨hLi, hOd, hBg, hsl⟩, hLe, hCh⟩) dMo_order_19 (by rw [zif_f c14])
