def rm_Mo_rankAll : Room := { frames := 2, cells := 0, slots := 0, locals := 100 }
set_option maxHeartbeats 4000000 in
set_option maxRecDepth 100000 in
theorem c_Mo_rankAll (l : Launch) (G : zG) (m0 av ab apl ase aco aen aor aba ali ale ach ast atw ats : Nat) (n stt nf mem kd sl fi tp th : Nat) (V Bd Se Co En Sx : Nat → Nat) (Tw Ts : Nat → Nat) (hn : n ≤ 12) (hnf : nf ≤ 16) (hV0 : ∀ j, j < n → 0 < V j ∧ V j ≤ 4) (hSe : ∀ i, Se i < 4096) (hC4 : ∀ f, f < nf → cellsF V (Se f) n ≤ 256) (hEn : ∀ i, En i ≤ 7) (hCo : sumF Co nf ≤ 16) (hBd : ∀ i, Bd i ≤ 4) (hst : stt ≤ 65536) (hTw : ∀ i, Tw i ≤ 33232930569601) (sz : Nat) : Met l yMo_rankAll (.code yMo_rankAll cMo_rankAll 5 none :: zT) rm_Mo_rankAll (zPw G [.ref m0] [(m0, zO 7 [.int (nI n), .ref av, .ref ab, .ref apl, .int (nI stt), .int (nI nf), .ref ase, .ref aco, .ref aen, .int (nI mem), .int (nI kd), .int (nI sl), .ref aor, .ref aba, .int (nI fi), .ref ali, .ref ale, .ref ach, .ref ast, .ref atw, .ref ats, .int (nI tp), .int (nI th)]), (av, zI G 12 (fun j => nI (V j))), (ab, zI G 12 (fun j => mI (Bd j))), (ase, zI G 16 (fun j => nI (Se j))), (aco, zI G 16 (fun j => nI (Co j))), (aen, zI G 4096 (fun j => nI (En j))), (ast, zI G 12 (fun j => nI (Sx j))), (atw, zL G 25 (fun j => lN (Tw j))), (ats, zI G 25 (fun j => nI (Ts j)))] sz) (zQ (S := Nat → Nat) G (fun u => none) (fun u => [(m0, zO 7 [.int (nI n), .ref av, .ref ab, .ref apl, .int (nI stt), .int (nI nf), .ref ase, .ref aco, .ref aen, .int (nI mem), .int (nI kd), .int (nI sl), .ref aor, .ref aba, .int (nI fi), .ref ali, .ref ale, .ref ach, .ref ast, .ref atw, .ref ats, .int (nI ((rkF (wtM V Bd Se Co En n nf) (Tw, Ts, 0) stt).2.2)), .int (nI th)]), (av, zI G 12 (fun j => nI (V j))), (ab, zI G 12 (fun j => mI (Bd j))), (ase, zI G 16 (fun j => nI (Se j))), (aco, zI G 16 (fun j => nI (Co j))), (aen, zI G 4096 (fun j => nI (En j))), (ast, zI G 12 (fun j => nI (u j))), (atw, zL G 25 (fun j => lN (((rkF (wtM V Bd Se Co En n nf) (Tw, Ts, 0) stt).1) j))), (ats, zI G 25 (fun j => nI (((rkF (wtM V Bd Se Co En n nf) (Tw, Ts, 0) stt).2.1) j)))]) (va_A [(m0, zO 7 [.int (nI n), .ref av, .ref ab, .ref apl, .int (nI stt), .int (nI nf), .ref ase, .ref aco, .ref aen, .int (nI mem), .int (nI kd), .int (nI sl), .ref aor, .ref aba, .int (nI fi), .ref ali, .ref ale, .ref ach, .ref ast, .ref atw, .ref ats, .int (nI tp), .int (nI th)]), (av, zI G 12 (fun j => nI (V j))), (ab, zI G 12 (fun j => mI (Bd j))), (ase, zI G 16 (fun j => nI (Se j))), (aco, zI G 16 (fun j => nI (Co j))), (aen, zI G 4096 (fun j => nI (En j))), (ast, zI G 12 (fun j => nI (Sx j))), (atw, zL G 25 (fun j => lN (Tw j))), (ats, zI G 25 (fun j => nI (Ts j)))] sz) (fun u => True)) 0 0 (va_A [(m0, zO 7 [.int (nI n), .ref av, .ref ab, .ref apl, .int (nI stt), .int (nI nf), .ref ase, .ref aco, .ref aen, .int (nI mem), .int (nI kd), .int (nI sl), .ref aor, .ref aba, .int (nI fi), .ref ali, .ref ale, .ref ach, .ref ast, .ref atw, .ref ats, .int (nI tp), .int (nI th)]), (av, zI G 12 (fun j => nI (V j))), (ab, zI G 12 (fun j => mI (Bd j))), (ase, zI G 16 (fun j => nI (Se j))), (aco, zI G 16 (fun j => nI (Co j))), (aen, zI G 4096 (fun j => nI (En j))), (ast, zI G 12 (fun j => nI (Sx j))), (atw, zL G 25 (fun j => lN (Tw j))), (ats, zI G 25 (fun j => nI (Ts j)))] sz) := by
  refine z_metWv (by decide) (Nat.le_of_ble_eq_true rfl) (fun p e s m args below meth c ls A Q Sf hnm w hl hret => ?_)
  obtain ⟨H, hH⟩ : ∃ H, H = s.heap := ⟨_, rfl⟩
  obtain ⟨locs, hlo⟩ : ∃ L : List Loc, L = [] := ⟨_, rfl⟩
  rw [← hH, ← hlo] at w
  rw [← hH, ← hlo]
  clear hH hlo
  have Sf : CallFix p m c cMo_rankAll 5 s args zT RMo := Sf
  have hx := Sf.1
  have hb := Sf.2.1
  have hown := Sf.2.2.2.1
  have hts := Sf.2.2.2.2
  have hl : lv_has ls 5 [(0, .ref m0)] := hl
  refine lv_aload_n hx hb dMo_rankAll_0 rfl (lv_at hl 0 rfl) ?_
  refine lv_iconst (v := (nI 0)) hx hb dMo_rankAll_1 (by decide) ?_
  refine pf_Mo_191 Sf w 0 rfl rfl rfl (Nat.le_of_ble_eq_true rfl) (ws' := [(m0, zO 7 [.int (nI n), .ref av, .ref ab, .ref apl, .int (nI stt), .int (nI nf), .ref ase, .ref aco, .ref aen, .int (nI mem), .int (nI kd), .int (nI sl), .ref aor, .ref aba, .int (nI fi), .ref ali, .ref ale, .ref ach, .ref ast, .ref atw, .ref ats, .int (nI 0), .int (nI th)]), (av, zI G 12 (fun j => nI (V j))), (ab, zI G 12 (fun j => mI (Bd j))), (ase, zI G 16 (fun j => nI (Se j))), (aco, zI G 16 (fun j => nI (Co j))), (aen, zI G 4096 (fun j => nI (En j))), (ast, zI G 12 (fun j => nI (Sx j))), (atw, zL G 25 (fun j => lN (Tw j))), (ats, zI G 25 (fun j => nI (Ts j)))]) rfl dMo_rankAll_2 (fun H locs w => ?_)
  refine lv_iconst (v := (nI 0)) hx hb dMo_rankAll_5 (by decide) ?_
  refine lv_istore_n (lv' := [(1, .int (nI 0)), (0, .ref m0)]) hx hb dMo_rankAll_6 rfl hl (by decide) rfl (fun ls hl => ?_)
  have L7 : ∀ (fu7 : Nat) (k tp2 : Nat) (F T2 S2 : Nat → Nat), (k ≤ stt) → ((T2, S2, tp2) = rkF (wtM V Bd Se Co En n nf) (Tw, Ts, 0) k) → (tp2 ≤ 24) → (∀ i, T2 i ≤ 33232930569601) → (stt - k) < fu7 → ∀ (H : Heap) (locs : List Loc), zw G A s [(m0, zO 7 [.int (nI n), .ref av, .ref ab, .ref apl, .int (nI stt), .int (nI nf), .ref ase, .ref aco, .ref aen, .int (nI mem), .int (nI kd), .int (nI sl), .ref aor, .ref aba, .int (nI fi), .ref ali, .ref ale, .ref ach, .ref ast, .ref atw, .ref ats, .int (nI tp2), .int (nI th)]), (av, zI G 12 (fun j => nI (V j))), (ab, zI G 12 (fun j => mI (Bd j))), (ase, zI G 16 (fun j => nI (Se j))), (aco, zI G 16 (fun j => nI (Co j))), (aen, zI G 4096 (fun j => nI (En j))), (ast, zI G 12 (fun j => nI (F j))), (atw, zL G 25 (fun j => lN (T2 j))), (ats, zI G 25 (fun j => nI (S2 j)))] H locs → ∀ (ls : Array Slot), lv_has ls 5 [(1, .int (nI k)), (0, .ref m0)] → W p l e rm_Mo_rankAll s m args below meth c H locs 0 0 Q (F0 m 7 ls []) := by
    intro fu7
    induction fu7 with
    | zero =>
      intro k tp2 F T2 S2 hk hs htp hT hm7
      exact absurd hm7 (Nat.not_lt_zero _)
    | succ fu7 ih7 =>
      intro k tp2 F T2 S2 hk hs htp hT hm7 H locs w ls hl
      have hwb : wtM V Bd Se Co En n nf k ≤ 33232930569601 := wtM_le hEn hCo
      refine lv_iload_n hx hb dMo_rankAll_7 rfl (lv_at hl 0 rfl) ?_
      refine lv_aload_n hx hb dMo_rankAll_8 rfl (lv_at hl 1 rfl) ?_
      refine gf_Mo_58 Sf w.1 0 rfl rfl dMo_rankAll_9 ?_
      refine z_icmpge (tgt := 136) hx hb (by omega) (by omega) dMo_rankAll_12 (by decide) (fun c12 => ?_) (fun c12 => ?_)
      · skip
        exact hret _ _ _ _ F _ w (by obtain rfl : k = stt := (by omega); rw [← hs]) (trivial) dMo_rankAll_136 rfl
      · skip
        refine lv_aload_n hx hb dMo_rankAll_15 rfl (lv_at hl 1 rfl) ?_
        refine lv_iload_n hx hb dMo_rankAll_16 rfl (lv_at hl 0 rfl) ?_
        refine z_wV (wr := [(atw, zL G 25 (fun j => lN (T2 j))), (ats, zI G 25 (fun j => nI (S2 j)))]) (As := [.int (nI k)]) (rest := []) Sf (c_Mo_weigh l G m0 av ab apl ase aco aen aor aba ali ale ach ast atw ats n stt nf mem kd sl fi tp2 th V Bd Se Co En F k (by first | assumption | omega) (by first | assumption | omega) (by first | assumption | omega) (by first | assumption | omega) (by first | assumption | omega) (by first | assumption | omega) (by first | assumption | omega) (by first | assumption | omega) (by omega) H.size) mv_Mo_169 ⟨rfl, rfl⟩ ⟨Nat.le_of_ble_eq_true rfl, Nat.le_of_ble_eq_true rfl⟩ w [0, 1, 2, 3, 4, 5, 6] [7, 8] rfl rfl (by decide) (by decide) (by decide) 0 rfl rfl rfl rfl hl.1 rfl (Nat.le_of_ble_eq_true rfl) dMo_rankAll_17 ⟨Nat.le_of_ble_eq_true rfl, Nat.le_of_ble_eq_true rfl⟩ (fun u1 H locs hu1 w => ?_)
        have w := w.eq (ws' := [(atw, zL G 25 (fun j => lN (T2 j))), (ats, zI G 25 (fun j => nI (S2 j))), (m0, zO 7 [.int (nI n), .ref av, .ref ab, .ref apl, .int (nI stt), .int (nI nf), .ref ase, .ref aco, .ref aen, .int (nI mem), .int (nI kd), .int (nI sl), .ref aor, .ref aba, .int (nI fi), .ref ali, .ref ale, .ref ach, .ref ast, .ref atw, .ref ats, .int (nI tp2), .int (nI th)]), (av, zI G 12 (fun j => nI (V j))), (ab, zI G 12 (fun j => mI (Bd j))), (ase, zI G 16 (fun j => nI (Se j))), (aco, zI G 16 (fun j => nI (Co j))), (aen, zI G 4096 (fun j => nI (En j))), (ast, zI G 12 (fun j => nI ((rowF F (valF V n k) n) j)))]) rfl
        refine W.eq (g2 := F0 m 20 ls [.long (lN (wtM V Bd Se Co En n nf k))]) rfl ?_
        refine lv_lstore_n (lv' := [(2, .long (lN (wtM V Bd Se Co En n nf k))), (1, .int (nI k)), (0, .ref m0)]) hx hb dMo_rankAll_20 rfl hl (by decide) rfl (fun ls hl => ?_)
        refine lv_lload_n hx hb dMo_rankAll_21 rfl (lv_at hl 0 rfl) ?_
        refine lv_lconst (v := lN 0) hx hb dMo_rankAll_22 (by decide) ?_
        refine W.lcmp hx hb dMo_rankAll_23 ?_
        refine z_lcleN (tgt := 130) hx hb (by omega) (by omega) dMo_rankAll_24 (by decide) (fun c24 => ?_) (fun c24 => ?_)
        · skip
          refine z_iinc (d := 1) (lv' := [(1, .int (nI (k + 1))), (2, .long (lN (wtM V Bd Se Co En n nf k))), (0, .ref m0)]) hx hb dMo_rankAll_130 hl (k := 1) rfl (by decide) (by decide) rfl (fun ls hl => ?_)
          refine lv_goto (tgt := 7) hx hb dMo_rankAll_133 (by decide) ?_
          refine ih7 (k + 1) _ (rowF F (valF V n k) n) T2 S2 ?_ ?_ ?_ ?_ ?_ _ _ (w.perm [2, 3, 4, 5, 6, 7, 8, 0, 1] (by decide) rfl) ls (lv_sub hl [0, 2] rfl)
          · omega
          · first | (rw [rkF_0 (by omega)]; exact hs) | (rw [rkF_1 (by omega), ← hs]; unfold rkN rkSh; dsimp only; rw [← hpp, ← hT4, ← hS4]; first | (rw [if_neg (show ¬ tp2 < 24 by omega)]; done) | (rw [if_pos (show tp2 < 24 by omega)]))
          · omega
          · first | exact hT | (intro j; unfold va_up; split; omega; rw [hT4]; unfold shP; split; exact hT _; exact hT _)
          · omega
        · skip
          have L90 : ∀ (p4 : Nat) (T4 S4 : Nat → Nat), (p4 = rkAt T2 (wtM V Bd Se Co En n nf k) tp2) → (p4 ≤ tp2) → (T4 = shP T2 tp2 p4) → (S4 = shP S2 tp2 p4) → ∀ (H : Heap) (locs : List Loc), zw G A s [(m0, zO 7 [.int (nI n), .ref av, .ref ab, .ref apl, .int (nI stt), .int (nI nf), .ref ase, .ref aco, .ref aen, .int (nI mem), .int (nI kd), .int (nI sl), .ref aor, .ref aba, .int (nI fi), .ref ali, .ref ale, .ref ach, .ref ast, .ref atw, .ref ats, .int (nI tp2), .int (nI th)]), (av, zI G 12 (fun j => nI (V j))), (ab, zI G 12 (fun j => mI (Bd j))), (ase, zI G 16 (fun j => nI (Se j))), (aco, zI G 16 (fun j => nI (Co j))), (aen, zI G 4096 (fun j => nI (En j))), (ast, zI G 12 (fun j => nI ((rowF F (valF V n k) n) j))), (atw, zL G 25 (fun j => lN (T4 j))), (ats, zI G 25 (fun j => nI (S4 j)))] H locs → ∀ (ls : Array Slot), lv_has ls 5 [(2, .long (lN (wtM V Bd Se Co En n nf k))), (1, .int (nI k)), (0, .ref m0), (4, .int (nI p4))] → W p l e rm_Mo_rankAll s m args below meth c H locs 0 0 Q (F0 m 90 ls []) := by
            intro p4 T4 S4 hpp hp4 hT4 hS4 H locs w ls hl
            refine lv_aload_n hx hb dMo_rankAll_90 rfl (lv_at hl 2 rfl) ?_
            refine gf_Mo_47 Sf w.1 0 rfl rfl dMo_rankAll_91 ?_
            refine lv_iload hx hb dMo_rankAll_94 (lv_at hl 3 rfl) ?_
            refine lv_lload_n hx hb dMo_rankAll_96 rfl (lv_at hl 0 rfl) ?_
            refine z_lastN hx hb w 7 (k := p4) rfl (by omega) (by omega) (ws' := [(m0, zO 7 [.int (nI n), .ref av, .ref ab, .ref apl, .int (nI stt), .int (nI nf), .ref ase, .ref aco, .ref aen, .int (nI mem), .int (nI kd), .int (nI sl), .ref aor, .ref aba, .int (nI fi), .ref ali, .ref ale, .ref ach, .ref ast, .ref atw, .ref ats, .int (nI tp2), .int (nI th)]), (av, zI G 12 (fun j => nI (V j))), (ab, zI G 12 (fun j => mI (Bd j))), (ase, zI G 16 (fun j => nI (Se j))), (aco, zI G 16 (fun j => nI (Co j))), (aen, zI G 4096 (fun j => nI (En j))), (ast, zI G 12 (fun j => nI ((rowF F (valF V n k) n) j))), (atw, zL G 25 (fun j => lN ((va_up T4 p4 (wtM V Bd Se Co En n nf k)) j))), (ats, zI G 25 (fun j => nI (S4 j)))]) rfl dMo_rankAll_97 (fun H locs w => ?_)
            refine lv_aload_n hx hb dMo_rankAll_98 rfl (lv_at hl 2 rfl) ?_
            refine gf_Mo_50 Sf w.1 0 rfl rfl dMo_rankAll_99 ?_
            refine lv_iload hx hb dMo_rankAll_102 (lv_at hl 3 rfl) ?_
            refine lv_iload_n hx hb dMo_rankAll_104 rfl (lv_at hl 1 rfl) ?_
            refine z_iastN hx hb w 8 (k := p4) rfl (by omega) (by omega) (ws' := [(m0, zO 7 [.int (nI n), .ref av, .ref ab, .ref apl, .int (nI stt), .int (nI nf), .ref ase, .ref aco, .ref aen, .int (nI mem), .int (nI kd), .int (nI sl), .ref aor, .ref aba, .int (nI fi), .ref ali, .ref ale, .ref ach, .ref ast, .ref atw, .ref ats, .int (nI tp2), .int (nI th)]), (av, zI G 12 (fun j => nI (V j))), (ab, zI G 12 (fun j => mI (Bd j))), (ase, zI G 16 (fun j => nI (Se j))), (aco, zI G 16 (fun j => nI (Co j))), (aen, zI G 4096 (fun j => nI (En j))), (ast, zI G 12 (fun j => nI ((rowF F (valF V n k) n) j))), (atw, zL G 25 (fun j => lN ((va_up T4 p4 (wtM V Bd Se Co En n nf k)) j))), (ats, zI G 25 (fun j => nI ((va_up S4 p4 k) j)))]) rfl dMo_rankAll_105 (fun H locs w => ?_)
            refine lv_aload_n hx hb dMo_rankAll_106 rfl (lv_at hl 2 rfl) ?_
            refine lv_aload_n hx hb dMo_rankAll_107 rfl (lv_at hl 2 rfl) ?_
            refine gf_Mo_191 Sf w.1 0 rfl rfl dMo_rankAll_108 ?_
            refine lv_bipush (v := nI 24) hx hb dMo_rankAll_111 (by decide) ?_
            refine z_icmpge (tgt := 125) hx hb (by omega) (by omega) dMo_rankAll_113 (by decide) (fun c113 => ?_) (fun c113 => ?_)
            · skip
              refine lv_bipush (v := nI 24) hx hb dMo_rankAll_125 (by decide) ?_
              refine pf_Mo_191 Sf w 0 rfl rfl rfl (Nat.le_of_ble_eq_true rfl) (ws' := [(m0, zO 7 [.int (nI n), .ref av, .ref ab, .ref apl, .int (nI stt), .int (nI nf), .ref ase, .ref aco, .ref aen, .int (nI mem), .int (nI kd), .int (nI sl), .ref aor, .ref aba, .int (nI fi), .ref ali, .ref ale, .ref ach, .ref ast, .ref atw, .ref ats, .int (nI 24), .int (nI th)]), (av, zI G 12 (fun j => nI (V j))), (ab, zI G 12 (fun j => mI (Bd j))), (ase, zI G 16 (fun j => nI (Se j))), (aco, zI G 16 (fun j => nI (Co j))), (aen, zI G 4096 (fun j => nI (En j))), (ast, zI G 12 (fun j => nI ((rowF F (valF V n k) n) j))), (atw, zL G 25 (fun j => lN ((va_up T4 p4 (wtM V Bd Se Co En n nf k)) j))), (ats, zI G 25 (fun j => nI ((va_up S4 p4 k) j)))]) rfl dMo_rankAll_127 (fun H locs w => ?_)
              refine z_iinc (d := 1) (lv' := [(1, .int (nI (k + 1))), (2, .long (lN (wtM V Bd Se Co En n nf k))), (0, .ref m0), (4, .int (nI p4))]) hx hb dMo_rankAll_130 hl (k := 1) rfl (by decide) (by decide) rfl (fun ls hl => ?_)
              refine lv_goto (tgt := 7) hx hb dMo_rankAll_133 (by decide) ?_
              refine ih7 (k + 1) 24 (rowF F (valF V n k) n) (va_up T4 p4 (wtM V Bd Se Co En n nf k)) (va_up S4 p4 k) ?_ ?_ ?_ ?_ ?_ _ _ w ls (lv_sub hl [0, 2] rfl)
              · omega
              · first | (rw [rkF_0 (by omega)]; exact hs) | (rw [rkF_1 (by omega), ← hs]; unfold rkN rkSh; dsimp only; rw [← hpp, ← hT4, ← hS4]; first | (rw [if_neg (show ¬ tp2 < 24 by omega)]; done) | (rw [if_pos (show tp2 < 24 by omega)]))
              · omega
              · first | exact hT | (intro j; unfold va_up; split; omega; rw [hT4]; unfold shP; split; exact hT _; exact hT _)
              · omega
            · skip
              refine lv_aload_n hx hb dMo_rankAll_116 rfl (lv_at hl 2 rfl) ?_
              refine gf_Mo_191 Sf w.1 0 rfl rfl dMo_rankAll_117 ?_
              refine lv_iconst (v := (nI 1)) hx hb dMo_rankAll_120 (by decide) ?_
              refine z_addN hx hb dMo_rankAll_121 ?_
              refine lv_goto (tgt := 127) hx hb dMo_rankAll_122 (by decide) ?_
              refine pf_Mo_191 Sf w 0 rfl rfl rfl (Nat.le_of_ble_eq_true rfl) (ws' := [(m0, zO 7 [.int (nI n), .ref av, .ref ab, .ref apl, .int (nI stt), .int (nI nf), .ref ase, .ref aco, .ref aen, .int (nI mem), .int (nI kd), .int (nI sl), .ref aor, .ref aba, .int (nI fi), .ref ali, .ref ale, .ref ach, .ref ast, .ref atw, .ref ats, .int (nI (tp2 + 1)), .int (nI th)]), (av, zI G 12 (fun j => nI (V j))), (ab, zI G 12 (fun j => mI (Bd j))), (ase, zI G 16 (fun j => nI (Se j))), (aco, zI G 16 (fun j => nI (Co j))), (aen, zI G 4096 (fun j => nI (En j))), (ast, zI G 12 (fun j => nI ((rowF F (valF V n k) n) j))), (atw, zL G 25 (fun j => lN ((va_up T4 p4 (wtM V Bd Se Co En n nf k)) j))), (ats, zI G 25 (fun j => nI ((va_up S4 p4 k) j)))]) rfl dMo_rankAll_127 (fun H locs w => ?_)
              refine z_iinc (d := 1) (lv' := [(1, .int (nI (k + 1))), (2, .long (lN (wtM V Bd Se Co En n nf k))), (0, .ref m0), (4, .int (nI p4))]) hx hb dMo_rankAll_130 hl (k := 1) rfl (by decide) (by decide) rfl (fun ls hl => ?_)
              refine lv_goto (tgt := 7) hx hb dMo_rankAll_133 (by decide) ?_
              refine ih7 (k + 1) (tp2 + 1) (rowF F (valF V n k) n) (va_up T4 p4 (wtM V Bd Se Co En n nf k)) (va_up S4 p4 k) ?_ ?_ ?_ ?_ ?_ _ _ w ls (lv_sub hl [0, 2] rfl)
              · omega
              · first | (rw [rkF_0 (by omega)]; exact hs) | (rw [rkF_1 (by omega), ← hs]; unfold rkN rkSh; dsimp only; rw [← hpp, ← hT4, ← hS4]; first | (rw [if_neg (show ¬ tp2 < 24 by omega)]; done) | (rw [if_pos (show tp2 < 24 by omega)]))
              · omega
              · first | exact hT | (intro j; unfold va_up; split; omega; rw [hT4]; unfold shP; split; exact hT _; exact hT _)
              · omega
          refine lv_aload_n hx hb dMo_rankAll_27 rfl (lv_at hl 2 rfl) ?_
          refine gf_Mo_191 Sf w.1 2 rfl rfl dMo_rankAll_28 ?_
          refine lv_istore (lv' := [(4, .int (nI tp2)), (2, .long (lN (wtM V Bd Se Co En n nf k))), (1, .int (nI k)), (0, .ref m0)]) hx hb dMo_rankAll_31 hl (by decide) rfl (fun ls hl => ?_)
          have L33 : ∀ (fu33 : Nat) (p2 : Nat) (T3 S3 : Nat → Nat), (p2 ≤ tp2) → (T3 = shP T2 tp2 p2) → (S3 = shP S2 tp2 p2) → (rkAt T2 (wtM V Bd Se Co En n nf k) p2 = rkAt T2 (wtM V Bd Se Co En n nf k) tp2) → (p2) < fu33 → ∀ (H : Heap) (locs : List Loc), zw G A s [(m0, zO 7 [.int (nI n), .ref av, .ref ab, .ref apl, .int (nI stt), .int (nI nf), .ref ase, .ref aco, .ref aen, .int (nI mem), .int (nI kd), .int (nI sl), .ref aor, .ref aba, .int (nI fi), .ref ali, .ref ale, .ref ach, .ref ast, .ref atw, .ref ats, .int (nI tp2), .int (nI th)]), (av, zI G 12 (fun j => nI (V j))), (ab, zI G 12 (fun j => mI (Bd j))), (ase, zI G 16 (fun j => nI (Se j))), (aco, zI G 16 (fun j => nI (Co j))), (aen, zI G 4096 (fun j => nI (En j))), (ast, zI G 12 (fun j => nI ((rowF F (valF V n k) n) j))), (atw, zL G 25 (fun j => lN (T3 j))), (ats, zI G 25 (fun j => nI (S3 j)))] H locs → ∀ (ls : Array Slot), lv_has ls 5 [(4, .int (nI p2)), (2, .long (lN (wtM V Bd Se Co En n nf k))), (1, .int (nI k)), (0, .ref m0)] → W p l e rm_Mo_rankAll s m args below meth c H locs 0 0 Q (F0 m 33 ls []) := by
            intro fu33
            induction fu33 with
            | zero =>
              intro p2 T3 S3 hp hT3 hS3 hat hm33
              exact absurd hm33 (Nat.not_lt_zero _)
            | succ fu33 ih33 =>
              intro p2 T3 S3 hp hT3 hS3 hat hm33 H locs w ls hl
              refine lv_iload hx hb dMo_rankAll_33 (lv_at hl 0 rfl) ?_
              refine z_ifleN (tgt := 90) hx hb (by omega) dMo_rankAll_35 (by decide) (fun c35 => ?_) (fun c35 => ?_)
              · skip
                refine L90 p2 T3 S3 ?_ ?_ ?_ ?_ _ _ w ls (lv_sub hl [1, 2, 3, 0] rfl)
                · first | (rw [← hat, c35]; rfl) | (rw [← hat, rkAt_n (by omega)])
                · omega
                · exact hT3
                · exact hS3
              · skip
                obtain ⟨q2, rfl⟩ : ∃ q2, p2 = q2 + 1 := ⟨p2 - 1, by omega⟩
                have ht3q : T3 q2 = T2 q2 := by rw [hT3, shP_at (by omega)]
                have hs3q : S3 q2 = S2 q2 := by rw [hS3, shP_at (by omega)]
                have hTq := hT q2
                refine lv_aload_n hx hb dMo_rankAll_38 rfl (lv_at hl 3 rfl) ?_
                refine gf_Mo_47 Sf w.1 0 rfl rfl dMo_rankAll_39 ?_
                refine lv_iload hx hb dMo_rankAll_42 (lv_at hl 0 rfl) ?_
                refine lv_iconst (v := (nI 1)) hx hb dMo_rankAll_44 (by decide) ?_
                refine z_subN hx hb (by omega) dMo_rankAll_45 ?_
                rw [Nat.add_sub_cancel]
                refine z_lald hx hb w.1 7 (k := q2) rfl (by omega) (by omega) dMo_rankAll_46 ?_
                refine lv_lload_n hx hb dMo_rankAll_47 rfl (lv_at hl 1 rfl) ?_
                refine W.lcmp hx hb dMo_rankAll_48 ?_
                refine z_lcgeN (tgt := 90) hx hb (by omega) (by omega) dMo_rankAll_49 (by decide) (fun c49 => ?_) (fun c49 => ?_)
                · skip
                  refine L90 (q2 + 1) T3 S3 ?_ ?_ ?_ ?_ _ _ w ls (lv_sub hl [1, 2, 3, 0] rfl)
                  · first | (rw [← hat, c35]; rfl) | (rw [← hat, rkAt_n (by omega)])
                  · omega
                  · exact hT3
                  · exact hS3
                · skip
                  refine lv_aload_n hx hb dMo_rankAll_52 rfl (lv_at hl 3 rfl) ?_
                  refine gf_Mo_47 Sf w.1 0 rfl rfl dMo_rankAll_53 ?_
                  refine lv_iload hx hb dMo_rankAll_56 (lv_at hl 0 rfl) ?_
                  refine lv_aload_n hx hb dMo_rankAll_58 rfl (lv_at hl 3 rfl) ?_
                  refine gf_Mo_47 Sf w.1 0 rfl rfl dMo_rankAll_59 ?_
                  refine lv_iload hx hb dMo_rankAll_62 (lv_at hl 0 rfl) ?_
                  refine lv_iconst (v := (nI 1)) hx hb dMo_rankAll_64 (by decide) ?_
                  refine z_subN hx hb (by omega) dMo_rankAll_65 ?_
                  rw [Nat.add_sub_cancel]
                  refine z_lald hx hb w.1 7 (k := q2) rfl (by omega) (by omega) dMo_rankAll_66 ?_
                  refine z_lastN hx hb w 7 (k := (q2 + 1)) rfl (by omega) (by omega) (ws' := [(m0, zO 7 [.int (nI n), .ref av, .ref ab, .ref apl, .int (nI stt), .int (nI nf), .ref ase, .ref aco, .ref aen, .int (nI mem), .int (nI kd), .int (nI sl), .ref aor, .ref aba, .int (nI fi), .ref ali, .ref ale, .ref ach, .ref ast, .ref atw, .ref ats, .int (nI tp2), .int (nI th)]), (av, zI G 12 (fun j => nI (V j))), (ab, zI G 12 (fun j => mI (Bd j))), (ase, zI G 16 (fun j => nI (Se j))), (aco, zI G 16 (fun j => nI (Co j))), (aen, zI G 4096 (fun j => nI (En j))), (ast, zI G 12 (fun j => nI ((rowF F (valF V n k) n) j))), (atw, zL G 25 (fun j => lN ((va_up T3 (q2 + 1) (T3 q2)) j))), (ats, zI G 25 (fun j => nI (S3 j)))]) rfl dMo_rankAll_67 (fun H locs w => ?_)
                  refine lv_aload_n hx hb dMo_rankAll_68 rfl (lv_at hl 3 rfl) ?_
                  refine gf_Mo_50 Sf w.1 0 rfl rfl dMo_rankAll_69 ?_
                  refine lv_iload hx hb dMo_rankAll_72 (lv_at hl 0 rfl) ?_
                  refine lv_aload_n hx hb dMo_rankAll_74 rfl (lv_at hl 3 rfl) ?_
                  refine gf_Mo_50 Sf w.1 0 rfl rfl dMo_rankAll_75 ?_
                  refine lv_iload hx hb dMo_rankAll_78 (lv_at hl 0 rfl) ?_
                  refine lv_iconst (v := (nI 1)) hx hb dMo_rankAll_80 (by decide) ?_
                  refine z_subN hx hb (by omega) dMo_rankAll_81 ?_
                  rw [Nat.add_sub_cancel]
                  refine z_iald hx hb w.1 8 (k := q2) rfl (by omega) (by omega) dMo_rankAll_82 ?_
                  refine z_iastN hx hb w 8 (k := (q2 + 1)) rfl (by omega) (by omega) (ws' := [(m0, zO 7 [.int (nI n), .ref av, .ref ab, .ref apl, .int (nI stt), .int (nI nf), .ref ase, .ref aco, .ref aen, .int (nI mem), .int (nI kd), .int (nI sl), .ref aor, .ref aba, .int (nI fi), .ref ali, .ref ale, .ref ach, .ref ast, .ref atw, .ref ats, .int (nI tp2), .int (nI th)]), (av, zI G 12 (fun j => nI (V j))), (ab, zI G 12 (fun j => mI (Bd j))), (ase, zI G 16 (fun j => nI (Se j))), (aco, zI G 16 (fun j => nI (Co j))), (aen, zI G 4096 (fun j => nI (En j))), (ast, zI G 12 (fun j => nI ((rowF F (valF V n k) n) j))), (atw, zL G 25 (fun j => lN ((va_up T3 (q2 + 1) (T3 q2)) j))), (ats, zI G 25 (fun j => nI ((va_up S3 (q2 + 1) (S3 q2)) j)))]) rfl dMo_rankAll_83 (fun H locs w => ?_)
                  refine lv_iinc (v := (nI q2)) (lv' := [(4, .int (nI q2)), (2, .long (lN (wtM V Bd Se Co En n nf k))), (1, .int (nI k)), (0, .ref m0)]) hx hb dMo_rankAll_84 hl (k := 0) rfl (pk_m1i q2) (by decide) rfl (fun ls hl => ?_)
                  refine lv_goto (tgt := 33) hx hb dMo_rankAll_87 (by decide) ?_
                  refine ih33 q2 (va_up T3 (q2 + 1) (T3 q2)) (va_up S3 (q2 + 1) (S3 q2)) ?_ ?_ ?_ ?_ ?_ _ _ w ls (lv_sub hl [0, 1, 2, 3] rfl)
                  · omega
                  · rw [ht3q, hT3]; exact shP_s hp
                  · rw [hs3q, hS3]; exact shP_s hp
                  · rw [← hat, rkAt_y (by omega)]
                  · omega
          refine L33 ((tp2) + 1) tp2 T2 S2 ?_ ?_ ?_ ?_ ?_ _ _ (w.perm [2, 3, 4, 5, 6, 7, 8, 0, 1] (by decide) rfl) ls (lv_sub hl [0, 1, 2, 3] rfl)
          · omega
          · exact (shP_tp _ _).symm
          · exact (shP_tp _ _).symm
          · rfl
          · exact Nat.lt_succ_self _
  refine L7 ((stt - 0) + 1) 0 0 Sx Tw Ts ?_ ?_ ?_ ?_ ?_ _ _ w ls (lv_sub hl [0, 1] rfl)
  · omega
  · rfl
  · omega
  · exact hTw
  · exact Nat.lt_succ_self _

def rm_Mo_refresh : Room := { frames := 3, cells := 0, slots := 0, locals := 150 }
set_option maxHeartbeats 4000000 in
set_option maxRecDepth 100000 in
theorem c_Mo_refresh (l : Launch) (G : zG) (m0 av ab apl ase aco aen aor aba ali ale ach ast atw ats : Nat) (n stt nf mem kd sl fi tp th : Nat) (V Pl Se Od Bg Li : Nat → Nat) (hn : n ≤ 12) (hnf : nf ≤ 16) (hV : ∀ j, V j ≤ 4) (hSe : ∀ i, Se i < 4096) (hLi : ∀ i, Li i < 4096) (hsl : sl ≤ 1) (sz : Nat) : Met l yMo_refresh (.code yMo_refresh cMo_refresh 1 none :: zT) rm_Mo_refresh (zPw G [.ref m0] [(m0, zO 7 [.int (nI n), .ref av, .ref ab, .ref apl, .int (nI stt), .int (nI nf), .ref ase, .ref aco, .ref aen, .int (nI mem), .int (nI kd), .int (nI sl), .ref aor, .ref aba, .int (nI fi), .ref ali, .ref ale, .ref ach, .ref ast, .ref atw, .ref ats, .int (nI tp), .int (nI th)]), (av, zI G 12 (fun j => nI (V j))), (apl, zI G 12 (fun j => mI (Pl j))), (ase, zI G 16 (fun j => nI (Se j))), (aor, zI G 12 (fun j => nI (Od j))), (aba, zI G 12 (fun j => nI (Bg j))), (ali, zI G 12 (fun j => nI (Li j)))] sz) (zQ (S := Unit) G (fun u => none) (fun u => [(m0, zO 7 [.int (nI n), .ref av, .ref ab, .ref apl, .int (nI stt), .int (nI nf), .ref ase, .ref aco, .ref aen, .int (nI mem), .int (nI ((rfZ n nf sl kd fi V Pl Se Li Od Bg).2.2.2.1)), .int (nI 0), .ref aor, .ref aba, .int (nI ((rfZ n nf sl kd fi V Pl Se Li Od Bg).2.2.2.2)), .ref ali, .ref ale, .ref ach, .ref ast, .ref atw, .ref ats, .int (nI tp), .int (nI th)]), (av, zI G 12 (fun j => nI (V j))), (apl, zI G 12 (fun j => mI (Pl j))), (ase, zI G 16 (fun j => nI (Se j))), (aor, zI G 12 (fun j => nI (((rfZ n nf sl kd fi V Pl Se Li Od Bg).2.1) j))), (aba, zI G 12 (fun j => nI (((rfZ n nf sl kd fi V Pl Se Li Od Bg).2.2.1) j))), (ali, zI G 12 (fun j => nI (((rfZ n nf sl kd fi V Pl Se Li Od Bg).1) j)))]) (va_A [(m0, zO 7 [.int (nI n), .ref av, .ref ab, .ref apl, .int (nI stt), .int (nI nf), .ref ase, .ref aco, .ref aen, .int (nI mem), .int (nI kd), .int (nI sl), .ref aor, .ref aba, .int (nI fi), .ref ali, .ref ale, .ref ach, .ref ast, .ref atw, .ref ats, .int (nI tp), .int (nI th)]), (av, zI G 12 (fun j => nI (V j))), (apl, zI G 12 (fun j => mI (Pl j))), (ase, zI G 16 (fun j => nI (Se j))), (aor, zI G 12 (fun j => nI (Od j))), (aba, zI G 12 (fun j => nI (Bg j))), (ali, zI G 12 (fun j => nI (Li j)))] sz) (fun u => True)) 0 0 (va_A [(m0, zO 7 [.int (nI n), .ref av, .ref ab, .ref apl, .int (nI stt), .int (nI nf), .ref ase, .ref aco, .ref aen, .int (nI mem), .int (nI kd), .int (nI sl), .ref aor, .ref aba, .int (nI fi), .ref ali, .ref ale, .ref ach, .ref ast, .ref atw, .ref ats, .int (nI tp), .int (nI th)]), (av, zI G 12 (fun j => nI (V j))), (apl, zI G 12 (fun j => mI (Pl j))), (ase, zI G 16 (fun j => nI (Se j))), (aor, zI G 12 (fun j => nI (Od j))), (aba, zI G 12 (fun j => nI (Bg j))), (ali, zI G 12 (fun j => nI (Li j)))] sz) := by
  refine z_metWv (by decide) (Nat.le_of_ble_eq_true rfl) (fun p e s m args below meth c ls A Q Sf hnm w hl hret => ?_)
  obtain ⟨H, hH⟩ : ∃ H, H = s.heap := ⟨_, rfl⟩
  obtain ⟨locs, hlo⟩ : ∃ L : List Loc, L = [] := ⟨_, rfl⟩
  rw [← hH, ← hlo] at w
  rw [← hH, ← hlo]
  clear hH hlo
  have Sf : CallFix p m c cMo_refresh 1 s args zT RMo := Sf
  have hx := Sf.1
  have hb := Sf.2.1
  have hown := Sf.2.2.2.1
  have hts := Sf.2.2.2.2
  have hl : lv_has ls 1 [(0, .ref m0)] := hl
  refine lv_aload_n hx hb dMo_refresh_0 rfl (lv_at hl 0 rfl) ?_
  refine gf_Mo_61 Sf w.1 0 rfl rfl dMo_refresh_1 ?_
  refine z_ifeqN (tgt := 12) hx hb (by omega) dMo_refresh_4 (by decide) (fun c4 => ?_) (fun c4 => ?_)
  · skip
    exact hret _ _ _ _ () _ w (by first | (rw [rfZ_1 c4]; done) | (rw [rfZ_0 c4, c4])) (trivial) dMo_refresh_12 rfl
  · skip
    refine lv_aload_n hx hb dMo_refresh_7 rfl (lv_at hl 0 rfl) ?_
    refine lv_iconst (v := (nI 0)) hx hb dMo_refresh_8 (by decide) ?_
    refine z_wV (wr := []) (As := [.int (nI 0)]) (rest := []) Sf (c_Mo_work l G m0 av ab apl ase aco aen aor aba ali ale ach ast atw ats n stt nf mem kd sl fi tp th V Pl Se Od Bg Li 0 (by first | assumption | omega) (by first | assumption | omega) (by first | assumption | omega) (by first | assumption | omega) (by first | assumption | omega) (by decide) (fun q => absurd q (by decide)) H.size) mv_Mo_143 ⟨rfl, rfl⟩ ⟨Nat.le_of_ble_eq_true rfl, Nat.le_of_ble_eq_true rfl⟩ w [0, 1, 2, 3, 4, 5, 6] [] rfl rfl (by decide) (by decide) (by decide) 0 rfl rfl rfl rfl hl.1 rfl (Nat.le_of_ble_eq_true rfl) dMo_refresh_9 ⟨Nat.le_of_ble_eq_true rfl, Nat.le_of_ble_eq_true rfl⟩ (fun u1 H locs hu1 w => ?_)
    have w := w.eq (ws' := [(m0, zO 7 [.int (nI n), .ref av, .ref ab, .ref apl, .int (nI stt), .int (nI nf), .ref ase, .ref aco, .ref aen, .int (nI mem), .int (nI 0), .int (nI 0), .ref aor, .ref aba, .int (nI ((wkZ 0 V Pl Se Li Od Bg n nf).2.2.2.2)), .ref ali, .ref ale, .ref ach, .ref ast, .ref atw, .ref ats, .int (nI tp), .int (nI th)]), (av, zI G 12 (fun j => nI (V j))), (apl, zI G 12 (fun j => mI (Pl j))), (ase, zI G 16 (fun j => nI (Se j))), (aor, zI G 12 (fun j => nI (((wkZ 0 V Pl Se Li Od Bg n nf).2.2.1) j))), (aba, zI G 12 (fun j => nI (((wkZ 0 V Pl Se Li Od Bg n nf).2.2.2.1) j))), (ali, zI G 12 (fun j => nI (((wkZ 0 V Pl Se Li Od Bg n nf).1) j)))]) rfl
    refine W.eq (g2 := F0 m 12 ls []) rfl ?_
    exact hret _ _ _ _ () _ w (by first | (rw [rfZ_1 c4]; done) | (rw [rfZ_0 c4, c4])) (trivial) dMo_refresh_12 rfl

def rm_Mo_isTooMuch : Room := { frames := 4, cells := 0, slots := 0, locals := 200 }
set_option maxHeartbeats 4000000 in
set_option maxRecDepth 100000 in
theorem c_Mo_isTooMuch (l : Launch) (G : zG) (m0 av ab apl ase aco aen aor aba ali ale ach ast atw ats : Nat) (n stt nf mem kd sl fi tp th : Nat) (V Pl Se Od Bg Li : Nat → Nat) (hn : n ≤ 12) (hnf : nf ≤ 16) (hV : ∀ j, V j ≤ 4) (hSe : ∀ i, Se i < 4096) (hLi : ∀ i, Li i < 4096) (hBg : ∀ i, Bg i < 4096) (hOd : ∀ i, Od i < 12) (hsl : sl ≤ 1) (hmem : mem ≤ 65536) (sz : Nat) : Met l yMo_isTooMuch (.code yMo_isTooMuch cMo_isTooMuch 1 (some .boolean) :: zT) rm_Mo_isTooMuch (zPw G [.ref m0] [(m0, zO 7 [.int (nI n), .ref av, .ref ab, .ref apl, .int (nI stt), .int (nI nf), .ref ase, .ref aco, .ref aen, .int (nI mem), .int (nI kd), .int (nI sl), .ref aor, .ref aba, .int (nI fi), .ref ali, .ref ale, .ref ach, .ref ast, .ref atw, .ref ats, .int (nI tp), .int (nI th)]), (av, zI G 12 (fun j => nI (V j))), (apl, zI G 12 (fun j => mI (Pl j))), (ase, zI G 16 (fun j => nI (Se j))), (aor, zI G 12 (fun j => nI (Od j))), (aba, zI G 12 (fun j => nI (Bg j))), (ali, zI G 12 (fun j => nI (Li j)))] sz) (zQ (S := Unit) G (fun u => some (.int (bI (mem < mcF V (rfZ n nf sl kd fi V Pl Se Li Od Bg).2.2.1 n n)))) (fun u => [(m0, zO 7 [.int (nI n), .ref av, .ref ab, .ref apl, .int (nI stt), .int (nI nf), .ref ase, .ref aco, .ref aen, .int (nI mem), .int (nI ((rfZ n nf sl kd fi V Pl Se Li Od Bg).2.2.2.1)), .int (nI 0), .ref aor, .ref aba, .int (nI ((rfZ n nf sl kd fi V Pl Se Li Od Bg).2.2.2.2)), .ref ali, .ref ale, .ref ach, .ref ast, .ref atw, .ref ats, .int (nI tp), .int (nI th)]), (av, zI G 12 (fun j => nI (V j))), (apl, zI G 12 (fun j => mI (Pl j))), (ase, zI G 16 (fun j => nI (Se j))), (aor, zI G 12 (fun j => nI (((rfZ n nf sl kd fi V Pl Se Li Od Bg).2.1) j))), (aba, zI G 12 (fun j => nI (((rfZ n nf sl kd fi V Pl Se Li Od Bg).2.2.1) j))), (ali, zI G 12 (fun j => nI (((rfZ n nf sl kd fi V Pl Se Li Od Bg).1) j)))]) (va_A [(m0, zO 7 [.int (nI n), .ref av, .ref ab, .ref apl, .int (nI stt), .int (nI nf), .ref ase, .ref aco, .ref aen, .int (nI mem), .int (nI kd), .int (nI sl), .ref aor, .ref aba, .int (nI fi), .ref ali, .ref ale, .ref ach, .ref ast, .ref atw, .ref ats, .int (nI tp), .int (nI th)]), (av, zI G 12 (fun j => nI (V j))), (apl, zI G 12 (fun j => mI (Pl j))), (ase, zI G 16 (fun j => nI (Se j))), (aor, zI G 12 (fun j => nI (Od j))), (aba, zI G 12 (fun j => nI (Bg j))), (ali, zI G 12 (fun j => nI (Li j)))] sz) (fun u => True)) 0 0 (va_A [(m0, zO 7 [.int (nI n), .ref av, .ref ab, .ref apl, .int (nI stt), .int (nI nf), .ref ase, .ref aco, .ref aen, .int (nI mem), .int (nI kd), .int (nI sl), .ref aor, .ref aba, .int (nI fi), .ref ali, .ref ale, .ref ach, .ref ast, .ref atw, .ref ats, .int (nI tp), .int (nI th)]), (av, zI G 12 (fun j => nI (V j))), (apl, zI G 12 (fun j => mI (Pl j))), (ase, zI G 16 (fun j => nI (Se j))), (aor, zI G 12 (fun j => nI (Od j))), (aba, zI G 12 (fun j => nI (Bg j))), (ali, zI G 12 (fun j => nI (Li j)))] sz) := by
  refine z_metWz (by decide) (Nat.le_of_ble_eq_true rfl) (fun p e s m args below meth c ls A Q Sf hnm w hl hret => ?_)
  obtain ⟨H, hH⟩ : ∃ H, H = s.heap := ⟨_, rfl⟩
  obtain ⟨locs, hlo⟩ : ∃ L : List Loc, L = [] := ⟨_, rfl⟩
  rw [← hH, ← hlo] at w
  rw [← hH, ← hlo]
  clear hH hlo
  have Sf : CallFix p m c cMo_isTooMuch 1 s args zT RMo := Sf
  have hx := Sf.1
  have hb := Sf.2.1
  have hown := Sf.2.2.2.1
  have hts := Sf.2.2.2.2
  have hl : lv_has ls 1 [(0, .ref m0)] := hl
  have hBB := rfZ_B (nf := nf) (sl := sl) (kd := kd) (fi := fi) (V := V) (Pl := Pl) hn hSe hLi hOd hBg
  have hmc := mcF_b (Bg := (rfZ n nf sl kd fi V Pl Se Li Od Bg).2.2.1) hV hn n
  refine lv_aload_n hx hb dMo_isTooMuch_0 rfl (lv_at hl 0 rfl) ?_
  refine z_wV (wr := []) (As := []) (rest := []) Sf (c_Mo_refresh l G m0 av ab apl ase aco aen aor aba ali ale ach ast atw ats n stt nf mem kd sl fi tp th V Pl Se Od Bg Li (by first | assumption | omega) (by first | assumption | omega) (by first | assumption | omega) (by first | assumption | omega) (by first | assumption | omega) (by first | assumption | omega) H.size) mv_Mo_152 ⟨rfl, rfl⟩ ⟨Nat.le_of_ble_eq_true rfl, Nat.le_of_ble_eq_true rfl⟩ w [0, 1, 2, 3, 4, 5, 6] [] rfl rfl (by decide) (by decide) (by decide) 0 rfl rfl rfl rfl hl.1 rfl (Nat.le_of_ble_eq_true rfl) dMo_isTooMuch_1 ⟨Nat.le_of_ble_eq_true rfl, Nat.le_of_ble_eq_true rfl⟩ (fun u1 H locs hu1 w => ?_)
  have w := w.eq (ws' := [(m0, zO 7 [.int (nI n), .ref av, .ref ab, .ref apl, .int (nI stt), .int (nI nf), .ref ase, .ref aco, .ref aen, .int (nI mem), .int (nI ((rfZ n nf sl kd fi V Pl Se Li Od Bg).2.2.2.1)), .int (nI 0), .ref aor, .ref aba, .int (nI ((rfZ n nf sl kd fi V Pl Se Li Od Bg).2.2.2.2)), .ref ali, .ref ale, .ref ach, .ref ast, .ref atw, .ref ats, .int (nI tp), .int (nI th)]), (av, zI G 12 (fun j => nI (V j))), (apl, zI G 12 (fun j => mI (Pl j))), (ase, zI G 16 (fun j => nI (Se j))), (aor, zI G 12 (fun j => nI (((rfZ n nf sl kd fi V Pl Se Li Od Bg).2.1) j))), (aba, zI G 12 (fun j => nI (((rfZ n nf sl kd fi V Pl Se Li Od Bg).2.2.1) j))), (ali, zI G 12 (fun j => nI (((rfZ n nf sl kd fi V Pl Se Li Od Bg).1) j)))]) rfl
  refine W.eq (g2 := F0 m 4 ls []) rfl ?_
  refine lv_aload_n hx hb dMo_isTooMuch_4 rfl (lv_at hl 0 rfl) ?_
  refine z_rV (As := []) (rest := []) Sf (c_Mo_mostCells l G m0 av ab apl ase aco aen aor aba ali ale ach ast atw ats n stt nf mem ((rfZ n nf sl kd fi V Pl Se Li Od Bg).2.2.2.1) 0 ((rfZ n nf sl kd fi V Pl Se Li Od Bg).2.2.2.2) tp th V ((rfZ n nf sl kd fi V Pl Se Li Od Bg).2.2.1) (by first | assumption | omega) (by first | assumption | omega) hBB.2.2) mv_Mo_160 ⟨rfl, rfl⟩ ⟨Nat.le_of_ble_eq_true rfl, Nat.le_of_ble_eq_true rfl⟩ w.1 [0, 1, 5] rfl 0 rfl rfl rfl rfl hl.1 rfl (Nat.le_of_ble_eq_true rfl) dMo_isTooMuch_5 ⟨Nat.le_of_ble_eq_true rfl, Nat.le_of_ble_eq_true rfl⟩ ?_
  refine lv_aload_n hx hb dMo_isTooMuch_8 rfl (lv_at hl 0 rfl) ?_
  refine gf_Mo_54 Sf w.1 0 rfl rfl dMo_isTooMuch_9 ?_
  refine z_icmple (tgt := 19) hx hb (by omega) (by omega) dMo_isTooMuch_12 (by decide) (fun c12 => ?_) (fun c12 => ?_)
  · skip
    refine lv_iconst (v := (nI 0)) hx hb dMo_isTooMuch_19 (by decide) ?_
    exact hret _ _ _ _ () _ _ w (rfl) (trivial) dMo_isTooMuch_20 (by first | (rw [← bI_t (show mem < mcF V (rfZ n nf sl kd fi V Pl Se Li Od Bg).2.2.1 n n from c12)]; done) | (rw [← bI_f (show ¬ mem < mcF V (rfZ n nf sl kd fi V Pl Se Li Od Bg).2.2.1 n n by omega)])) rfl
  · skip
    refine lv_iconst (v := (nI 1)) hx hb dMo_isTooMuch_15 (by decide) ?_
    refine lv_goto (tgt := 20) hx hb dMo_isTooMuch_16 (by decide) ?_
    exact hret _ _ _ _ () _ _ w (rfl) (trivial) dMo_isTooMuch_20 (by first | (rw [← bI_t (show mem < mcF V (rfZ n nf sl kd fi V Pl Se Li Od Bg).2.2.1 n n from c12)]; done) | (rw [← bI_f (show ¬ mem < mcF V (rfZ n nf sl kd fi V Pl Se Li Od Bg).2.2.1 n n by omega)])) rfl
