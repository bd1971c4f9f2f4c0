def rm_Mo_weigh : Room := { frames := 1, cells := 0, slots := 0, locals := 50 }
set_option maxHeartbeats 4000000 in
set_option maxRecDepth 100000 in
theorem c_Mo_weigh (l : Launch) (G : zG) (m0 av ab apl ase aco aen aor aba ali ale ach ast atw ats : Nat) (n stt nf mem kd sl fi tp th : Nat) (V Bd Se Co En Sx : Nat → Nat) (x : Nat) (hn : n ≤ 12) (hnf : nf ≤ 16) (hV0 : ∀ j, j < n → 0 < V j ∧ V j ≤ 4) (hSe : ∀ i, Se i < 4096) (hC4 : ∀ f, f < nf → cellsF V (Se f) n ≤ 256) (hEn : ∀ i, En i ≤ 7) (hCo : sumF Co nf ≤ 16) (hBd : ∀ i, Bd i ≤ 4) (hx0 : x < 2 ^ 31) (sz : Nat) : Met l yMo_weigh (.code yMo_weigh cMo_weigh 7 (some .long) :: zT) rm_Mo_weigh (zPw G [.ref m0, .int (nI x)] [(m0, zO 7 [.int (nI n), .ref av, .ref ab, .ref apl, .int (nI stt), .int (nI nf), .ref ase, .ref aco, .ref aen, .int (nI mem), .int (nI kd), .int (nI sl), .ref aor, .ref aba, .int (nI fi), .ref ali, .ref ale, .ref ach, .ref ast, .ref atw, .ref ats, .int (nI tp), .int (nI th)]), (av, zI G 12 (fun j => nI (V j))), (ab, zI G 12 (fun j => mI (Bd j))), (ase, zI G 16 (fun j => nI (Se j))), (aco, zI G 16 (fun j => nI (Co j))), (aen, zI G 4096 (fun j => nI (En j))), (ast, zI G 12 (fun j => nI (Sx j)))] sz) (zQ (S := Unit) G (fun u => some (.long (lN (wtM V Bd Se Co En n nf x)))) (fun u => [(m0, zO 7 [.int (nI n), .ref av, .ref ab, .ref apl, .int (nI stt), .int (nI nf), .ref ase, .ref aco, .ref aen, .int (nI mem), .int (nI kd), .int (nI sl), .ref aor, .ref aba, .int (nI fi), .ref ali, .ref ale, .ref ach, .ref ast, .ref atw, .ref ats, .int (nI tp), .int (nI th)]), (av, zI G 12 (fun j => nI (V j))), (ab, zI G 12 (fun j => mI (Bd j))), (ase, zI G 16 (fun j => nI (Se j))), (aco, zI G 16 (fun j => nI (Co j))), (aen, zI G 4096 (fun j => nI (En j))), (ast, zI G 12 (fun j => nI ((rowF Sx (valF V n x) n) j)))]) (va_A [(m0, zO 7 [.int (nI n), .ref av, .ref ab, .ref apl, .int (nI stt), .int (nI nf), .ref ase, .ref aco, .ref aen, .int (nI mem), .int (nI kd), .int (nI sl), .ref aor, .ref aba, .int (nI fi), .ref ali, .ref ale, .ref ach, .ref ast, .ref atw, .ref ats, .int (nI tp), .int (nI th)]), (av, zI G 12 (fun j => nI (V j))), (ab, zI G 12 (fun j => mI (Bd j))), (ase, zI G 16 (fun j => nI (Se j))), (aco, zI G 16 (fun j => nI (Co j))), (aen, zI G 4096 (fun j => nI (En j))), (ast, zI G 12 (fun j => nI (Sx j)))] sz) (fun u => True)) 0 0 (va_A [(m0, zO 7 [.int (nI n), .ref av, .ref ab, .ref apl, .int (nI stt), .int (nI nf), .ref ase, .ref aco, .ref aen, .int (nI mem), .int (nI kd), .int (nI sl), .ref aor, .ref aba, .int (nI fi), .ref ali, .ref ale, .ref ach, .ref ast, .ref atw, .ref ats, .int (nI tp), .int (nI th)]), (av, zI G 12 (fun j => nI (V j))), (ab, zI G 12 (fun j => mI (Bd j))), (ase, zI G 16 (fun j => nI (Se j))), (aco, zI G 16 (fun j => nI (Co j))), (aen, zI G 4096 (fun j => nI (En j))), (ast, zI G 12 (fun j => nI (Sx j)))] sz) := by
  refine z_metWl (by decide) (Nat.le_of_ble_eq_true rfl) (fun p e s m args below meth c ls A Q Sf hnm w hl hret => ?_)
  obtain ⟨H, hH⟩ : ∃ H, H = s.heap := ⟨_, rfl⟩
  obtain ⟨locs, hlo⟩ : ∃ L : List Loc, L = [] := ⟨_, rfl⟩
  rw [← hH, ← hlo] at w
  rw [← hH, ← hlo]
  clear hH hlo
  have Sf : CallFix p m c cMo_weigh 7 s args zT RMo := Sf
  have hx := Sf.1
  have hb := Sf.2.1
  have hown := Sf.2.2.2.1
  have hts := Sf.2.2.2.2
  have hl : lv_has ls 7 [(0, .ref m0), (1, .int (nI x))] := hl
  refine lv_aload_n hx hb dMo_weigh_0 rfl (lv_at hl 0 rfl) ?_
  refine lv_iload_n hx hb dMo_weigh_1 rfl (lv_at hl 1 rfl) ?_
  refine z_wV (wr := [(ab, zI G 12 (fun j => mI (Bd j))), (ase, zI G 16 (fun j => nI (Se j))), (aco, zI G 16 (fun j => nI (Co j))), (aen, zI G 4096 (fun j => nI (En j)))]) (As := [.int (nI x)]) (rest := []) Sf (c_Mo_lay l G m0 av ab apl ase aco aen aor aba ali ale ach ast atw ats n stt nf mem kd sl fi tp th V Sx x (by first | assumption | omega) (by first | assumption | omega) (by first | assumption | omega) H.size) mv_Mo_163 ⟨rfl, rfl⟩ ⟨Nat.le_of_ble_eq_true rfl, Nat.le_of_ble_eq_true rfl⟩ w [0, 1, 6] [2, 3, 4, 5] rfl rfl (by decide) (by decide) (by decide) 0 rfl rfl rfl rfl hl.1 rfl (Nat.le_of_ble_eq_true rfl) dMo_weigh_2 ⟨Nat.le_of_ble_eq_true rfl, Nat.le_of_ble_eq_true rfl⟩ (fun u1 H locs hu1 w => ?_)
  have w := w.eq (ws' := [(ab, zI G 12 (fun j => mI (Bd j))), (ase, zI G 16 (fun j => nI (Se j))), (aco, zI G 16 (fun j => nI (Co j))), (aen, zI G 4096 (fun j => nI (En j))), (m0, zO 7 [.int (nI n), .ref av, .ref ab, .ref apl, .int (nI stt), .int (nI nf), .ref ase, .ref aco, .ref aen, .int (nI mem), .int (nI kd), .int (nI sl), .ref aor, .ref aba, .int (nI fi), .ref ali, .ref ale, .ref ach, .ref ast, .ref atw, .ref ats, .int (nI tp), .int (nI th)]), (av, zI G 12 (fun j => nI (V j))), (ast, zI G 12 (fun j => nI ((rowF Sx (valF V n x) n) j)))]) rfl
  refine W.eq (g2 := F0 m 5 ls []) rfl ?_
  refine lv_iconst (v := (nI 0)) hx hb dMo_weigh_5 (by decide) ?_
  refine lv_istore_n (lv' := [(2, .int (nI 0)), (0, .ref m0), (1, .int (nI x))]) hx hb dMo_weigh_6 rfl hl (by decide) rfl (fun ls hl => ?_)
  have L7 : ∀ (fu7 : Nat) (k : Nat), (k ≤ n) → (evP Bd (rowF Sx (valF V n x) n) k) → (n - k) < fu7 → ∀ (H : Heap) (locs : List Loc), zw G A s [(m0, zO 7 [.int (nI n), .ref av, .ref ab, .ref apl, .int (nI stt), .int (nI nf), .ref ase, .ref aco, .ref aen, .int (nI mem), .int (nI kd), .int (nI sl), .ref aor, .ref aba, .int (nI fi), .ref ali, .ref ale, .ref ach, .ref ast, .ref atw, .ref ats, .int (nI tp), .int (nI th)]), (av, zI G 12 (fun j => nI (V j))), (ab, zI G 12 (fun j => mI (Bd j))), (ase, zI G 16 (fun j => nI (Se j))), (aco, zI G 16 (fun j => nI (Co j))), (aen, zI G 4096 (fun j => nI (En j))), (ast, zI G 12 (fun j => nI ((rowF Sx (valF V n x) n) j)))] H locs → ∀ (ls : Array Slot), lv_has ls 7 [(2, .int (nI k)), (0, .ref m0), (1, .int (nI x))] → W p l e rm_Mo_weigh s m args below meth c H locs 0 0 Q (F0 m 7 ls []) := by
    intro fu7
    induction fu7 with
    | zero =>
      intro k hk hev hm7
      exact absurd hm7 (Nat.not_lt_zero _)
    | succ fu7 ih7 =>
      intro k hk hev hm7 H locs w ls hl
      refine lv_iload_n hx hb dMo_weigh_7 rfl (lv_at hl 0 rfl) ?_
      refine lv_aload_n hx hb dMo_weigh_8 rfl (lv_at hl 1 rfl) ?_
      refine gf_Mo_68 Sf w.1 0 rfl rfl dMo_weigh_9 ?_
      refine z_icmpge (tgt := 48) hx hb (by omega) (by omega) dMo_weigh_12 (by decide) (fun c12 => ?_) (fun c12 => ?_)
      · skip
        have hevn : evP Bd (rowF Sx (valF V n x) n) n := by
          obtain rfl : k = n := (by omega)
          exact hev
        refine lv_lconst (v := lN 1) hx hb dMo_weigh_48 (by decide) ?_
        refine lv_lstore_n (lv' := [(2, .long (lN 1)), (0, .ref m0), (1, .int (nI x))]) hx hb dMo_weigh_49 rfl hl (by decide) rfl (fun ls hl => ?_)
        refine lv_iconst (v := (nI 0)) hx hb dMo_weigh_50 (by decide) ?_
        refine lv_istore (lv' := [(4, .int (nI 0)), (2, .long (lN 1)), (0, .ref m0), (1, .int (nI x))]) hx hb dMo_weigh_51 hl (by decide) rfl (fun ls hl => ?_)
        have L53 : ∀ (fu53 : Nat) (f w2 : Nat), (f ≤ nf) → (w2 = prF V (rowF Sx (valF V n x) n) Se Co En n f) → (nf - f) < fu53 → ∀ (H : Heap) (locs : List Loc), zw G A s [(m0, zO 7 [.int (nI n), .ref av, .ref ab, .ref apl, .int (nI stt), .int (nI nf), .ref ase, .ref aco, .ref aen, .int (nI mem), .int (nI kd), .int (nI sl), .ref aor, .ref aba, .int (nI fi), .ref ali, .ref ale, .ref ach, .ref ast, .ref atw, .ref ats, .int (nI tp), .int (nI th)]), (av, zI G 12 (fun j => nI (V j))), (ab, zI G 12 (fun j => mI (Bd j))), (ase, zI G 16 (fun j => nI (Se j))), (aco, zI G 16 (fun j => nI (Co j))), (aen, zI G 4096 (fun j => nI (En j))), (ast, zI G 12 (fun j => nI ((rowF Sx (valF V n x) n) j)))] H locs → ∀ (ls : Array Slot), lv_has ls 7 [(4, .int (nI f)), (2, .long (lN w2)), (0, .ref m0), (1, .int (nI x))] → W p l e rm_Mo_weigh s m args below meth c H locs 0 0 Q (F0 m 53 ls []) := by
          intro fu53
          induction fu53 with
          | zero =>
            intro f w2 hf hw2 hm53
            exact absurd hm53 (Nat.not_lt_zero _)
          | succ fu53 ih53 =>
            intro f w2 hf hw2 hm53 H locs w ls hl
            have hwb : w2 ≤ 33232930569601 := by rw [hw2]; exact Nat.le_trans (prF_le hEn f) (pw7 (Nat.le_trans (sumF_mono hf) hCo))
            refine lv_iload hx hb dMo_weigh_53 (lv_at hl 0 rfl) ?_
            refine lv_aload_n hx hb dMo_weigh_55 rfl (lv_at hl 2 rfl) ?_
            refine gf_Mo_79 Sf w.1 0 rfl rfl dMo_weigh_56 ?_
            refine z_icmpge (tgt := 126) hx hb (by omega) (by omega) dMo_weigh_59 (by decide) (fun c59 => ?_) (fun c59 => ?_)
            · skip
              refine lv_lload_n hx hb dMo_weigh_126 rfl (lv_at hl 1 rfl) ?_
              exact hret _ _ _ _ () _ _ w (rfl) (trivial) dMo_weigh_127 (by first | (rw [wtM_p hevn, hw2, show f = nf by omega]; done) | (rw [wtM_p hevn]; have e := prF_0 (f := f) (by rw [← hw2]; omega) (nf - f); rw [show f + (nf - f) = nf by omega] at e; rw [e, show w2 = 0 by omega]))
            · skip
              refine lv_lload_n hx hb dMo_weigh_62 rfl (lv_at hl 1 rfl) ?_
              refine lv_lconst (v := lN 0) hx hb dMo_weigh_63 (by decide) ?_
              refine W.lcmp hx hb dMo_weigh_64 ?_
              refine z_lcleN (tgt := 126) hx hb (by omega) (by omega) dMo_weigh_65 (by decide) (fun c65 => ?_) (fun c65 => ?_)
              · skip
                refine lv_lload_n hx hb dMo_weigh_126 rfl (lv_at hl 1 rfl) ?_
                exact hret _ _ _ _ () _ _ w (rfl) (trivial) dMo_weigh_127 (by first | (rw [wtM_p hevn, hw2, show f = nf by omega]; done) | (rw [wtM_p hevn]; have e := prF_0 (f := f) (by rw [← hw2]; omega) (nf - f); rw [show f + (nf - f) = nf by omega] at e; rw [e, show w2 = 0 by omega]))
              · skip
                have hsf := sumF_at (Co := Co) (show f < nf by omega)
                have hnn : nmF (rowF Sx (valF V n x) n) V (Se f) n < 256 := Nat.lt_of_lt_of_le (nmF_lt n (fun i hi => by rw [rowF_lt hi]; exact valF_lt (hV0 i hi).1)) (hC4 f (by omega))
                refine lv_aload_n hx hb dMo_weigh_68 rfl (lv_at hl 2 rfl) ?_
                refine gf_Mo_25 Sf w.1 0 rfl rfl dMo_weigh_69 ?_
                refine lv_sipush (v := nI 256) hx hb dMo_weigh_72 (by decide) ?_
                refine lv_iload hx hb dMo_weigh_75 (lv_at hl 0 rfl) ?_
                refine z_mulN hx hb dMo_weigh_77 ?_
                refine lv_aload_n hx hb dMo_weigh_78 rfl (lv_at hl 2 rfl) ?_
                refine lv_aload_n hx hb dMo_weigh_79 rfl (lv_at hl 2 rfl) ?_
                refine gf_Mo_19 Sf w.1 0 rfl rfl dMo_weigh_80 ?_
                refine lv_iload hx hb dMo_weigh_83 (lv_at hl 0 rfl) ?_
                refine z_iald hx hb w.1 3 (k := f) rfl (by omega) (by omega) dMo_weigh_85 ?_
                refine z_rV (As := [.int (nI (Se f))]) (rest := [.int (nI (256 * f)), .ref aen]) Sf (c_Mo_numberOf l G m0 av ab apl ase aco aen aor aba ali ale ach ast atw ats n stt nf mem kd sl fi tp th V (rowF Sx (valF V n x) n) (Se f) (by first | assumption | omega) (hSe f)) mv_Mo_166 ⟨rfl, rfl⟩ ⟨Nat.le_of_ble_eq_true rfl, Nat.le_of_ble_eq_true rfl⟩ w.1 [0, 1, 6] rfl 0 rfl rfl rfl rfl hl.1 rfl (Nat.le_of_ble_eq_true rfl) dMo_weigh_86 ⟨Nat.le_of_ble_eq_true rfl, Nat.le_of_ble_eq_true rfl⟩ ?_
                refine z_addN hx hb dMo_weigh_89 ?_
                refine z_iald hx hb w.1 5 (k := ((256 * f) + (nmF (rowF Sx (valF V n x) n) V (Se f) n))) rfl (by omega) (by omega) dMo_weigh_90 ?_
                refine lv_istore (lv' := [(5, .int (nI (En ((256 * f) + (nmF (rowF Sx (valF V n x) n) V (Se f) n))))), (4, .int (nI f)), (2, .long (lN w2)), (0, .ref m0), (1, .int (nI x))]) hx hb dMo_weigh_91 hl (by decide) rfl (fun ls hl => ?_)
                refine lv_iconst (v := (nI 0)) hx hb dMo_weigh_93 (by decide) ?_
                refine lv_istore (lv' := [(6, .int (nI 0)), (5, .int (nI (En ((256 * f) + (nmF (rowF Sx (valF V n x) n) V (Se f) n))))), (4, .int (nI f)), (2, .long (lN w2)), (0, .ref m0), (1, .int (nI x))]) hx hb dMo_weigh_94 hl (by decide) rfl (fun ls hl => ?_)
                have L96 : ∀ (fu96 : Nat) (k2 w3 : Nat), (k2 ≤ Co f) → (w3 = w2 * En (256 * f + nmF (rowF Sx (valF V n x) n) V (Se f) n) ^ k2) → (Co f - k2) < fu96 → ∀ (H : Heap) (locs : List Loc), zw G A s [(m0, zO 7 [.int (nI n), .ref av, .ref ab, .ref apl, .int (nI stt), .int (nI nf), .ref ase, .ref aco, .ref aen, .int (nI mem), .int (nI kd), .int (nI sl), .ref aor, .ref aba, .int (nI fi), .ref ali, .ref ale, .ref ach, .ref ast, .ref atw, .ref ats, .int (nI tp), .int (nI th)]), (av, zI G 12 (fun j => nI (V j))), (ab, zI G 12 (fun j => mI (Bd j))), (ase, zI G 16 (fun j => nI (Se j))), (aco, zI G 16 (fun j => nI (Co j))), (aen, zI G 4096 (fun j => nI (En j))), (ast, zI G 12 (fun j => nI ((rowF Sx (valF V n x) n) j)))] H locs → ∀ (ls : Array Slot), lv_has ls 7 [(6, .int (nI k2)), (5, .int (nI (En ((256 * f) + (nmF (rowF Sx (valF V n x) n) V (Se f) n))))), (4, .int (nI f)), (2, .long (lN w3)), (0, .ref m0), (1, .int (nI x))] → W p l e rm_Mo_weigh s m args below meth c H locs 0 0 Q (F0 m 96 ls []) := by
                  intro fu96
                  induction fu96 with
                  | zero =>
                    intro k2 w3 hk2 hw3 hm96
                    exact absurd hm96 (Nat.not_lt_zero _)
                  | succ fu96 ih96 =>
                    intro k2 w3 hk2 hw3 hm96 H locs w ls hl
                    refine lv_iload hx hb dMo_weigh_96 (lv_at hl 0 rfl) ?_
                    refine lv_aload_n hx hb dMo_weigh_98 rfl (lv_at hl 4 rfl) ?_
                    refine gf_Mo_22 Sf w.1 0 rfl rfl dMo_weigh_99 ?_
                    refine lv_iload hx hb dMo_weigh_102 (lv_at hl 2 rfl) ?_
                    refine z_iald hx hb w.1 4 (k := f) rfl (by omega) (by omega) dMo_weigh_104 ?_
                    refine z_icmpge (tgt := 120) hx hb (by omega) (by omega) dMo_weigh_105 (by decide) (fun c105 => ?_) (fun c105 => ?_)
                    · skip
                      refine z_iinc (d := 1) (lv' := [(4, .int (nI (f + 1))), (6, .int (nI k2)), (5, .int (nI (En ((256 * f) + (nmF (rowF Sx (valF V n x) n) V (Se f) n))))), (2, .long (lN w3)), (0, .ref m0), (1, .int (nI x))]) hx hb dMo_weigh_120 hl (k := 2) rfl (by decide) (by decide) rfl (fun ls hl => ?_)
                      refine lv_goto (tgt := 53) hx hb dMo_weigh_123 (by decide) ?_
                      refine ih53 (f + 1) w3 ?_ ?_ ?_ _ _ w ls (lv_sub hl [0, 3, 4, 5] rfl)
                      · omega
                      · rw [hw3, show k2 = Co f by omega, hw2]; rfl
                      · omega
                    · skip
                      refine lv_lload_n hx hb dMo_weigh_108 rfl (lv_at hl 3 rfl) ?_
                      refine lv_iload hx hb dMo_weigh_109 (lv_at hl 1 rfl) ?_
                      refine lv_i2l (v := lN (En ((256 * f) + (nmF (rowF Sx (valF V n x) n) V (Se f) n)))) hx hb dMo_weigh_111 (nI_l (Nat.lt_of_le_of_lt (hEn _) (by decide))) ?_
                      refine z_lmulN hx hb dMo_weigh_112 ?_
                      refine lv_lstore_n (lv' := [(2, .long (lN (w3 * (En ((256 * f) + (nmF (rowF Sx (valF V n x) n) V (Se f) n)))))), (6, .int (nI k2)), (5, .int (nI (En ((256 * f) + (nmF (rowF Sx (valF V n x) n) V (Se f) n))))), (4, .int (nI f)), (0, .ref m0), (1, .int (nI x))]) hx hb dMo_weigh_113 rfl hl (by decide) rfl (fun ls hl => ?_)
                      refine z_iinc (d := 1) (lv' := [(6, .int (nI (k2 + 1))), (2, .long (lN (w3 * (En ((256 * f) + (nmF (rowF Sx (valF V n x) n) V (Se f) n)))))), (5, .int (nI (En ((256 * f) + (nmF (rowF Sx (valF V n x) n) V (Se f) n))))), (4, .int (nI f)), (0, .ref m0), (1, .int (nI x))]) hx hb dMo_weigh_114 hl (k := 1) rfl (by decide) (by decide) rfl (fun ls hl => ?_)
                      refine lv_goto (tgt := 96) hx hb dMo_weigh_117 (by decide) ?_
                      refine ih96 (k2 + 1) (w3 * (En ((256 * f) + (nmF (rowF Sx (valF V n x) n) V (Se f) n)))) ?_ ?_ ?_ _ _ w ls (lv_sub hl [0, 2, 3, 1, 4, 5] rfl)
                      · omega
                      · rw [hw3, Nat.pow_succ, Nat.mul_assoc]
                      · omega
                refine L96 ((Co f - 0) + 1) 0 w2 ?_ ?_ ?_ _ _ w ls (lv_sub hl [0, 1, 2, 3, 4, 5] rfl)
                · omega
                · rw [Nat.pow_zero, Nat.mul_one]
                · exact Nat.lt_succ_self _
        refine L53 ((nf - 0) + 1) 0 1 ?_ ?_ ?_ _ _ w ls (lv_sub hl [0, 1, 2, 3] rfl)
        · omega
        · rfl
        · exact Nat.lt_succ_self _
      · skip
        have hbd := hBd k
        have hvk := hV0 k (by omega)
        have hsk : rowF Sx (valF V n x) n k < 4 := by rw [rowF_lt (show k < n by omega)]; exact Nat.lt_of_lt_of_le (valF_lt hvk.1) hvk.2
        refine lv_aload_n hx hb dMo_weigh_15 rfl (lv_at hl 1 rfl) ?_
        refine gf_Mo_13 Sf w.1 0 rfl rfl dMo_weigh_16 ?_
        refine lv_iload_n hx hb dMo_weigh_19 rfl (lv_at hl 0 rfl) ?_
        refine z_iald hx hb w.1 2 (k := k) rfl (by omega) (by omega) dMo_weigh_20 ?_
        refine lv_iconst (v := (mI 0)) hx hb dMo_weigh_21 (by decide) ?_
        refine z_icmpeqMM (tgt := 42) hx hb (by omega) (by omega) dMo_weigh_22 (by decide) (fun c22 => ?_) (fun c22 => ?_)
        · skip
          refine z_iinc (d := 1) (lv' := [(2, .int (nI (k + 1))), (0, .ref m0), (1, .int (nI x))]) hx hb dMo_weigh_42 hl (k := 0) rfl (by decide) (by decide) rfl (fun ls hl => ?_)
          refine lv_goto (tgt := 7) hx hb dMo_weigh_45 (by decide) ?_
          refine ih7 (k + 1) ?_ ?_ ?_ _ _ w ls (lv_sub hl [0, 1, 2] rfl)
          · omega
          · first | exact evP_s hev (Or.inl c22) | exact evP_s hev (Or.inr c37)
          · omega
        · skip
          refine lv_aload_n hx hb dMo_weigh_25 rfl (lv_at hl 1 rfl) ?_
          refine gf_Mo_13 Sf w.1 0 rfl rfl dMo_weigh_26 ?_
          refine lv_iload_n hx hb dMo_weigh_29 rfl (lv_at hl 0 rfl) ?_
          refine z_iald hx hb w.1 2 (k := k) rfl (by omega) (by omega) dMo_weigh_30 ?_
          refine lv_aload_n hx hb dMo_weigh_31 rfl (lv_at hl 1 rfl) ?_
          refine gf_Mo_44 Sf w.1 0 rfl rfl dMo_weigh_32 ?_
          refine lv_iload_n hx hb dMo_weigh_35 rfl (lv_at hl 0 rfl) ?_
          refine z_iald hx hb w.1 6 (k := k) rfl (by omega) (by omega) dMo_weigh_36 ?_
          refine z_icmpeqMN (tgt := 42) hx hb (by omega) (by omega) dMo_weigh_37 (by decide) (fun c37 => ?_) (fun c37 => ?_)
          · skip
            refine z_iinc (d := 1) (lv' := [(2, .int (nI (k + 1))), (0, .ref m0), (1, .int (nI x))]) hx hb dMo_weigh_42 hl (k := 0) rfl (by decide) (by decide) rfl (fun ls hl => ?_)
            refine lv_goto (tgt := 7) hx hb dMo_weigh_45 (by decide) ?_
            refine ih7 (k + 1) ?_ ?_ ?_ _ _ w ls (lv_sub hl [0, 1, 2] rfl)
            · omega
            · first | exact evP_s hev (Or.inl c22) | exact evP_s hev (Or.inr c37)
            · omega
          · skip
            refine lv_lconst (v := lN 0) hx hb dMo_weigh_40 (by decide) ?_
            exact hret _ _ _ _ () _ _ w (rfl) (trivial) dMo_weigh_41 (by rw [wtM_0 (show k < n by omega) c22 c37])
  refine L7 ((n - 0) + 1) 0 ?_ ?_ ?_ _ _ (w.perm [4, 5, 0, 1, 2, 3, 6] (by decide) rfl) ls (lv_sub hl [0, 1, 2] rfl)
  · omega
  · exact evP_0 _ _
  · exact Nat.lt_succ_self _

def rm_Mo_sum : Room := { frames := 2, cells := 0, slots := 0, locals := 100 }
set_option maxHeartbeats 4000000 in
set_option maxRecDepth 100000 in
theorem c_Mo_sum (l : Launch) (G : zG) (m0 av ab apl ase aco aen aor aba ali ale ach ast atw ats : Nat) (n stt nf mem kd sl fi tp th : Nat) (V Bd Se Co En Sx : Nat → Nat) (hn : n ≤ 12) (hnf : nf ≤ 16) (hV0 : ∀ j, j < n → 0 < V j ∧ V j ≤ 4) (hSe : ∀ i, Se i < 4096) (hC4 : ∀ f, f < nf → cellsF V (Se f) n ≤ 256) (hEn : ∀ i, En i ≤ 7) (hCo : sumF Co nf ≤ 16) (hBd : ∀ i, Bd i ≤ 4) (hst : stt ≤ 65536) (sz : Nat) : Met l yMo_sum (.code yMo_sum cMo_sum 4 (some .long) :: zT) rm_Mo_sum (zPw G [.ref m0] [(m0, zO 7 [.int (nI n), .ref av, .ref ab, .ref apl, .int (nI stt), .int (nI nf), .ref ase, .ref aco, .ref aen, .int (nI mem), .int (nI kd), .int (nI sl), .ref aor, .ref aba, .int (nI fi), .ref ali, .ref ale, .ref ach, .ref ast, .ref atw, .ref ats, .int (nI tp), .int (nI th)]), (av, zI G 12 (fun j => nI (V j))), (ab, zI G 12 (fun j => mI (Bd j))), (ase, zI G 16 (fun j => nI (Se j))), (aco, zI G 16 (fun j => nI (Co j))), (aen, zI G 4096 (fun j => nI (En j))), (ast, zI G 12 (fun j => nI (Sx j)))] sz) (zQ (S := Nat → Nat) G (fun u => some (.long (lN (smF (wtM V Bd Se Co En n nf) stt)))) (fun u => [(m0, zO 7 [.int (nI n), .ref av, .ref ab, .ref apl, .int (nI stt), .int (nI nf), .ref ase, .ref aco, .ref aen, .int (nI mem), .int (nI kd), .int (nI sl), .ref aor, .ref aba, .int (nI fi), .ref ali, .ref ale, .ref ach, .ref ast, .ref atw, .ref ats, .int (nI tp), .int (nI th)]), (av, zI G 12 (fun j => nI (V j))), (ab, zI G 12 (fun j => mI (Bd j))), (ase, zI G 16 (fun j => nI (Se j))), (aco, zI G 16 (fun j => nI (Co j))), (aen, zI G 4096 (fun j => nI (En j))), (ast, zI G 12 (fun j => nI (u j)))]) (va_A [(m0, zO 7 [.int (nI n), .ref av, .ref ab, .ref apl, .int (nI stt), .int (nI nf), .ref ase, .ref aco, .ref aen, .int (nI mem), .int (nI kd), .int (nI sl), .ref aor, .ref aba, .int (nI fi), .ref ali, .ref ale, .ref ach, .ref ast, .ref atw, .ref ats, .int (nI tp), .int (nI th)]), (av, zI G 12 (fun j => nI (V j))), (ab, zI G 12 (fun j => mI (Bd j))), (ase, zI G 16 (fun j => nI (Se j))), (aco, zI G 16 (fun j => nI (Co j))), (aen, zI G 4096 (fun j => nI (En j))), (ast, zI G 12 (fun j => nI (Sx j)))] sz) (fun u => True)) 0 0 (va_A [(m0, zO 7 [.int (nI n), .ref av, .ref ab, .ref apl, .int (nI stt), .int (nI nf), .ref ase, .ref aco, .ref aen, .int (nI mem), .int (nI kd), .int (nI sl), .ref aor, .ref aba, .int (nI fi), .ref ali, .ref ale, .ref ach, .ref ast, .ref atw, .ref ats, .int (nI tp), .int (nI th)]), (av, zI G 12 (fun j => nI (V j))), (ab, zI G 12 (fun j => mI (Bd j))), (ase, zI G 16 (fun j => nI (Se j))), (aco, zI G 16 (fun j => nI (Co j))), (aen, zI G 4096 (fun j => nI (En j))), (ast, zI G 12 (fun j => nI (Sx j)))] sz) := by
  refine z_metWl (by decide) (Nat.le_of_ble_eq_true rfl) (fun p e s m args below meth c ls A Q Sf hnm w hl hret => ?_)
  obtain ⟨H, hH⟩ : ∃ H, H = s.heap := ⟨_, rfl⟩
  obtain ⟨locs, hlo⟩ : ∃ L : List Loc, L = [] := ⟨_, rfl⟩
  rw [← hH, ← hlo] at w
  rw [← hH, ← hlo]
  clear hH hlo
  have Sf : CallFix p m c cMo_sum 4 s args zT RMo := Sf
  have hx := Sf.1
  have hb := Sf.2.1
  have hown := Sf.2.2.2.1
  have hts := Sf.2.2.2.2
  have hl : lv_has ls 4 [(0, .ref m0)] := hl
  refine lv_lconst (v := lN 0) hx hb dMo_sum_0 (by decide) ?_
  refine lv_lstore_n (lv' := [(1, .long (lN 0)), (0, .ref m0)]) hx hb dMo_sum_1 rfl hl (by decide) rfl (fun ls hl => ?_)
  refine lv_iconst (v := (nI 0)) hx hb dMo_sum_2 (by decide) ?_
  refine lv_istore_n (lv' := [(3, .int (nI 0)), (1, .long (lN 0)), (0, .ref m0)]) hx hb dMo_sum_3 rfl hl (by decide) rfl (fun ls hl => ?_)
  have L4 : ∀ (fu4 : Nat) (k t : Nat) (F : Nat → Nat), (k ≤ stt) → (t = smF (wtM V Bd Se Co En n nf) k) → (stt - k) < fu4 → ∀ (H : Heap) (locs : List Loc), zw G A s [(m0, zO 7 [.int (nI n), .ref av, .ref ab, .ref apl, .int (nI stt), .int (nI nf), .ref ase, .ref aco, .ref aen, .int (nI mem), .int (nI kd), .int (nI sl), .ref aor, .ref aba, .int (nI fi), .ref ali, .ref ale, .ref ach, .ref ast, .ref atw, .ref ats, .int (nI tp), .int (nI th)]), (av, zI G 12 (fun j => nI (V j))), (ab, zI G 12 (fun j => mI (Bd j))), (ase, zI G 16 (fun j => nI (Se j))), (aco, zI G 16 (fun j => nI (Co j))), (aen, zI G 4096 (fun j => nI (En j))), (ast, zI G 12 (fun j => nI (F j)))] H locs → ∀ (ls : Array Slot), lv_has ls 4 [(3, .int (nI k)), (1, .long (lN t)), (0, .ref m0)] → W p l e rm_Mo_sum s m args below meth c H locs 0 0 Q (F0 m 4 ls []) := by
    intro fu4
    induction fu4 with
    | zero =>
      intro k t F hk ht hm4
      exact absurd hm4 (Nat.not_lt_zero _)
    | succ fu4 ih4 =>
      intro k t F hk ht hm4 H locs w ls hl
      refine lv_iload_n hx hb dMo_sum_4 rfl (lv_at hl 0 rfl) ?_
      refine lv_aload_n hx hb dMo_sum_5 rfl (lv_at hl 2 rfl) ?_
      refine gf_Mo_58 Sf w.1 0 rfl rfl dMo_sum_6 ?_
      refine z_icmpge (tgt := 26) hx hb (by omega) (by omega) dMo_sum_9 (by decide) (fun c9 => ?_) (fun c9 => ?_)
      · skip
        refine lv_lload_n hx hb dMo_sum_26 rfl (lv_at hl 1 rfl) ?_
        exact hret _ _ _ _ F _ _ w (rfl) (trivial) dMo_sum_27 (by rw [ht, show k = stt by omega])
      · skip
        refine lv_lload_n hx hb dMo_sum_12 rfl (lv_at hl 1 rfl) ?_
        refine lv_aload_n hx hb dMo_sum_13 rfl (lv_at hl 2 rfl) ?_
        refine lv_iload_n hx hb dMo_sum_14 rfl (lv_at hl 0 rfl) ?_
        refine z_wV (wr := []) (As := [.int (nI k)]) (rest := [.long (lN t)]) Sf (c_Mo_weigh l G m0 av ab apl ase aco aen aor aba ali ale ach ast atw ats n stt nf mem kd sl fi tp th V Bd Se Co En F k (by first | assumption | omega) (by first | assumption | omega) (by first | assumption | omega) (by first | assumption | omega) (by first | assumption | omega) (by first | assumption | omega) (by first | assumption | omega) (by first | assumption | omega) (by first | assumption | omega) H.size) mv_Mo_169 ⟨rfl, rfl⟩ ⟨Nat.le_of_ble_eq_true rfl, Nat.le_of_ble_eq_true rfl⟩ w [0, 1, 2, 3, 4, 5, 6] [] rfl rfl (by decide) (by decide) (by decide) 0 rfl rfl rfl rfl hl.1 rfl (Nat.le_of_ble_eq_true rfl) dMo_sum_15 ⟨Nat.le_of_ble_eq_true rfl, Nat.le_of_ble_eq_true rfl⟩ (fun u1 H locs hu1 w => ?_)
        have w := w.eq (ws' := [(m0, zO 7 [.int (nI n), .ref av, .ref ab, .ref apl, .int (nI stt), .int (nI nf), .ref ase, .ref aco, .ref aen, .int (nI mem), .int (nI kd), .int (nI sl), .ref aor, .ref aba, .int (nI fi), .ref ali, .ref ale, .ref ach, .ref ast, .ref atw, .ref ats, .int (nI tp), .int (nI th)]), (av, zI G 12 (fun j => nI (V j))), (ab, zI G 12 (fun j => mI (Bd j))), (ase, zI G 16 (fun j => nI (Se j))), (aco, zI G 16 (fun j => nI (Co j))), (aen, zI G 4096 (fun j => nI (En j))), (ast, zI G 12 (fun j => nI ((rowF F (valF V n k) n) j)))]) rfl
        refine W.eq (g2 := F0 m 18 ls [.long (lN (wtM V Bd Se Co En n nf k)), .long (lN t)]) rfl ?_
        refine z_laddN hx hb dMo_sum_18 ?_
        refine lv_lstore_n (lv' := [(1, .long (lN (t + (wtM V Bd Se Co En n nf k)))), (3, .int (nI k)), (0, .ref m0)]) hx hb dMo_sum_19 rfl hl (by decide) rfl (fun ls hl => ?_)
        refine z_iinc (d := 1) (lv' := [(3, .int (nI (k + 1))), (1, .long (lN (t + (wtM V Bd Se Co En n nf k)))), (0, .ref m0)]) hx hb dMo_sum_20 hl (k := 1) rfl (by decide) (by decide) rfl (fun ls hl => ?_)
        refine lv_goto (tgt := 4) hx hb dMo_sum_23 (by decide) ?_
        refine ih4 (k + 1) (t + (wtM V Bd Se Co En n nf k)) (rowF F (valF V n k) n) ?_ ?_ ?_ _ _ w ls (lv_sub hl [0, 1, 2] rfl)
        · omega
        · rw [ht]; rfl
        · omega
  refine L4 ((stt - 0) + 1) 0 0 Sx ?_ ?_ ?_ _ _ w ls (lv_sub hl [0, 1, 2] rfl)
  · omega
  · rfl
  · exact Nat.lt_succ_self _
