def rm_Mo_work : Room := { frames := 2, cells := 0, slots := 0, locals := 100 }
set_option maxHeartbeats 4000000 in
set_option maxRecDepth 100000 in
theorem c_Mo_work (l : Launch) (G : zG) (m0 av ab apl ase aco aen aor aba ali ale ach ast atw ats : Nat) (n stt nf mem kd sl fi tp th : Nat) (V Pl Se Od Bg Li : Nat → Nat) (how : Nat) (hn : n ≤ 12) (hnf : nf ≤ 16) (hV : ∀ j, V j ≤ 4) (hSe : ∀ i, Se i < 4096) (hLi : ∀ i, Li i < 4096) (hho : how < 5) (hPl : how = 1 → ∀ i, i < n → 0 < Pl i ∧ Pl i ≤ n) (sz : Nat) : Met l yMo_work (.code yMo_work cMo_work 6 none :: zT) rm_Mo_work (zPw G [.ref m0, .int (nI how)] [(m0, zO 7 [.int (nI n), .ref av, .ref ab, .ref apl, .int (nI stt), .int (nI nf), .ref ase, .ref aco, .ref aen, .int (nI mem), .int (nI kd), .int (nI sl), .ref aor, .ref aba, .int (nI fi), .ref ali, .ref ale, .ref ach, .ref ast, .ref atw, .ref ats, .int (nI tp), .int (nI th)]), (av, zI G 12 (fun j => nI (V j))), (apl, zI G 12 (fun j => mI (Pl j))), (ase, zI G 16 (fun j => nI (Se j))), (aor, zI G 12 (fun j => nI (Od j))), (aba, zI G 12 (fun j => nI (Bg j))), (ali, zI G 12 (fun j => nI (Li j)))] sz) (zQ (S := Unit) G (fun u => none) (fun u => [(m0, zO 7 [.int (nI n), .ref av, .ref ab, .ref apl, .int (nI stt), .int (nI nf), .ref ase, .ref aco, .ref aen, .int (nI mem), .int (nI how), .int (nI 0), .ref aor, .ref aba, .int (nI ((wkZ how V Pl Se Li Od Bg n nf).2.2.2.2)), .ref ali, .ref ale, .ref ach, .ref ast, .ref atw, .ref ats, .int (nI tp), .int (nI th)]), (av, zI G 12 (fun j => nI (V j))), (apl, zI G 12 (fun j => mI (Pl j))), (ase, zI G 16 (fun j => nI (Se j))), (aor, zI G 12 (fun j => nI (((wkZ how V Pl Se Li Od Bg n nf).2.2.1) j))), (aba, zI G 12 (fun j => nI (((wkZ how V Pl Se Li Od Bg n nf).2.2.2.1) j))), (ali, zI G 12 (fun j => nI (((wkZ how V Pl Se Li Od Bg n nf).1) j)))]) (va_A [(m0, zO 7 [.int (nI n), .ref av, .ref ab, .ref apl, .int (nI stt), .int (nI nf), .ref ase, .ref aco, .ref aen, .int (nI mem), .int (nI kd), .int (nI sl), .ref aor, .ref aba, .int (nI fi), .ref ali, .ref ale, .ref ach, .ref ast, .ref atw, .ref ats, .int (nI tp), .int (nI th)]), (av, zI G 12 (fun j => nI (V j))), (apl, zI G 12 (fun j => mI (Pl j))), (ase, zI G 16 (fun j => nI (Se j))), (aor, zI G 12 (fun j => nI (Od j))), (aba, zI G 12 (fun j => nI (Bg j))), (ali, zI G 12 (fun j => nI (Li j)))] sz) (fun u => True)) 0 0 (va_A [(m0, zO 7 [.int (nI n), .ref av, .ref ab, .ref apl, .int (nI stt), .int (nI nf), .ref ase, .ref aco, .ref aen, .int (nI mem), .int (nI kd), .int (nI sl), .ref aor, .ref aba, .int (nI fi), .ref ali, .ref ale, .ref ach, .ref ast, .ref atw, .ref ats, .int (nI tp), .int (nI th)]), (av, zI G 12 (fun j => nI (V j))), (apl, zI G 12 (fun j => mI (Pl j))), (ase, zI G 16 (fun j => nI (Se j))), (aor, zI G 12 (fun j => nI (Od j))), (aba, zI G 12 (fun j => nI (Bg j))), (ali, zI G 12 (fun j => nI (Li j)))] sz) := by
  refine z_metWv (by decide) (Nat.le_of_ble_eq_true rfl) (fun p e s m args below meth c ls A Q Sf hnm w hl hret => ?_)
  obtain ⟨H, hH⟩ : ∃ H, H = s.heap := ⟨_, rfl⟩
  obtain ⟨locs, hlo⟩ : ∃ L : List Loc, L = [] := ⟨_, rfl⟩
  rw [← hH, ← hlo] at w
  rw [← hH, ← hlo]
  clear hH hlo
  have Sf : CallFix p m c cMo_work 6 s args zT RMo := Sf
  have hx := Sf.1
  have hb := Sf.2.1
  have hown := Sf.2.2.2.1
  have hts := Sf.2.2.2.2
  have hl : lv_has ls 6 [(0, .ref m0), (1, .int (nI how))] := hl
  refine lv_aload_n hx hb dMo_work_0 rfl (lv_at hl 0 rfl) ?_
  refine lv_iload_n hx hb dMo_work_1 rfl (lv_at hl 1 rfl) ?_
  refine pf_Mo_127 Sf w 0 rfl rfl rfl (Nat.le_of_ble_eq_true rfl) (ws' := [(m0, zO 7 [.int (nI n), .ref av, .ref ab, .ref apl, .int (nI stt), .int (nI nf), .ref ase, .ref aco, .ref aen, .int (nI mem), .int (nI how), .int (nI sl), .ref aor, .ref aba, .int (nI fi), .ref ali, .ref ale, .ref ach, .ref ast, .ref atw, .ref ats, .int (nI tp), .int (nI th)]), (av, zI G 12 (fun j => nI (V j))), (apl, zI G 12 (fun j => mI (Pl j))), (ase, zI G 16 (fun j => nI (Se j))), (aor, zI G 12 (fun j => nI (Od j))), (aba, zI G 12 (fun j => nI (Bg j))), (ali, zI G 12 (fun j => nI (Li j)))]) rfl dMo_work_2 (fun H locs w => ?_)
  refine lv_aload_n hx hb dMo_work_5 rfl (lv_at hl 0 rfl) ?_
  refine lv_iconst (v := (nI 0)) hx hb dMo_work_6 (by decide) ?_
  refine pf_Mo_61 Sf w 0 rfl rfl rfl (Nat.le_of_ble_eq_true rfl) (ws' := [(m0, zO 7 [.int (nI n), .ref av, .ref ab, .ref apl, .int (nI stt), .int (nI nf), .ref ase, .ref aco, .ref aen, .int (nI mem), .int (nI how), .int (nI 0), .ref aor, .ref aba, .int (nI fi), .ref ali, .ref ale, .ref ach, .ref ast, .ref atw, .ref ats, .int (nI tp), .int (nI th)]), (av, zI G 12 (fun j => nI (V j))), (apl, zI G 12 (fun j => mI (Pl j))), (ase, zI G 16 (fun j => nI (Se j))), (aor, zI G 12 (fun j => nI (Od j))), (aba, zI G 12 (fun j => nI (Bg j))), (ali, zI G 12 (fun j => nI (Li j)))]) rfl dMo_work_7 (fun H locs w => ?_)
  refine lv_aload_n hx hb dMo_work_10 rfl (lv_at hl 0 rfl) ?_
  refine lv_iconst (v := (nI 0)) hx hb dMo_work_11 (by decide) ?_
  refine pf_Mo_113 Sf w 0 rfl rfl rfl (Nat.le_of_ble_eq_true rfl) (ws' := [(m0, zO 7 [.int (nI n), .ref av, .ref ab, .ref apl, .int (nI stt), .int (nI nf), .ref ase, .ref aco, .ref aen, .int (nI mem), .int (nI how), .int (nI 0), .ref aor, .ref aba, .int (nI 0), .ref ali, .ref ale, .ref ach, .ref ast, .ref atw, .ref ats, .int (nI tp), .int (nI th)]), (av, zI G 12 (fun j => nI (V j))), (apl, zI G 12 (fun j => mI (Pl j))), (ase, zI G 16 (fun j => nI (Se j))), (aor, zI G 12 (fun j => nI (Od j))), (aba, zI G 12 (fun j => nI (Bg j))), (ali, zI G 12 (fun j => nI (Li j)))]) rfl dMo_work_12 (fun H locs w => ?_)
  refine lv_aload_n hx hb dMo_work_15 rfl (lv_at hl 0 rfl) ?_
  refine z_wV (wr := [(av, zI G 12 (fun j => nI (V j))), (apl, zI G 12 (fun j => mI (Pl j))), (aor, zI G 12 (fun j => nI (Od j))), (aba, zI G 12 (fun j => nI (Bg j)))]) (As := []) (rest := []) Sf (c_Mo_draw l G m0 av ab apl ase aco aen aor aba ali ale ach ast atw ats n stt nf mem how 0 0 tp th Se Li (by first | assumption | omega) (by first | assumption | omega) (by first | assumption | omega) H.size) mv_Mo_130 ⟨rfl, rfl⟩ ⟨Nat.le_of_ble_eq_true rfl, Nat.le_of_ble_eq_true rfl⟩ w [0, 3, 6] [1, 2, 4, 5] rfl rfl (by decide) (by decide) (by decide) 0 rfl rfl rfl rfl hl.1 rfl (Nat.le_of_ble_eq_true rfl) dMo_work_16 ⟨Nat.le_of_ble_eq_true rfl, Nat.le_of_ble_eq_true rfl⟩ (fun u1 H locs hu1 w => ?_)
  have w := w.eq (ws' := [(av, zI G 12 (fun j => nI (V j))), (apl, zI G 12 (fun j => mI (Pl j))), (aor, zI G 12 (fun j => nI (Od j))), (aba, zI G 12 (fun j => nI (Bg j))), (m0, zO 7 [.int (nI n), .ref av, .ref ab, .ref apl, .int (nI stt), .int (nI nf), .ref ase, .ref aco, .ref aen, .int (nI mem), .int (nI how), .int (nI 0), .ref aor, .ref aba, .int (nI 0), .ref ali, .ref ale, .ref ach, .ref ast, .ref atw, .ref ats, .int (nI tp), .int (nI th)]), (ase, zI G 16 (fun j => nI (Se j))), (ali, zI G 12 (fun j => nI ((rowF Li (drF Se nf) n) j)))]) rfl
  refine W.eq (g2 := F0 m 19 ls []) rfl ?_
  refine lv_iload_n hx hb dMo_work_19 rfl (lv_at hl 1 rfl) ?_
  refine lv_iconst (v := (nI 5)) hx hb dMo_work_20 (by decide) ?_
  refine z_icmpne (tgt := 28) hx hb (by omega) (by omega) dMo_work_21 (by decide) (fun c21 => ?_) (fun c21 => ?_)
  · skip
    refine lv_aload_n hx hb dMo_work_28 rfl (lv_at hl 0 rfl) ?_
    refine gf_Mo_28 Sf w.1 4 rfl rfl dMo_work_29 ?_
    refine lv_astore_n (lv' := [(2, .ref aor), (0, .ref m0), (1, .int (nI how))]) hx hb dMo_work_32 rfl hl (by decide) rfl (fun ls hl => ?_)
    refine lv_iconst (v := (nI 0)) hx hb dMo_work_33 (by decide) ?_
    refine lv_istore_n (lv' := [(3, .int (nI 0)), (2, .ref aor), (0, .ref m0), (1, .int (nI how))]) hx hb dMo_work_34 rfl hl (by decide) rfl (fun ls hl => ?_)
    refine lv_iconst (v := (nI 0)) hx hb dMo_work_35 (by decide) ?_
    refine lv_istore (lv' := [(4, .int (nI 0)), (3, .int (nI 0)), (2, .ref aor), (0, .ref m0), (1, .int (nI how))]) hx hb dMo_work_36 hl (by decide) rfl (fun ls hl => ?_)
    have L38 : ∀ (fu38 : Nat) (i o fi2 : Nat) (L2 O2 B2 : Nat → Nat), (i ≤ n) → ((L2, o, O2, B2, fi2) = wkF how V Pl n (rowF Li (drF Se nf) n, 0, Od, Bg, 0) i) → (o < 4096) → (∀ j, L2 j < 4096) → (2 ≤ how → popP o n = i) → (n - i) < fu38 → ∀ (H : Heap) (locs : List Loc), zw G A s [(m0, zO 7 [.int (nI n), .ref av, .ref ab, .ref apl, .int (nI stt), .int (nI nf), .ref ase, .ref aco, .ref aen, .int (nI mem), .int (nI how), .int (nI 0), .ref aor, .ref aba, .int (nI fi2), .ref ali, .ref ale, .ref ach, .ref ast, .ref atw, .ref ats, .int (nI tp), .int (nI th)]), (av, zI G 12 (fun j => nI (V j))), (apl, zI G 12 (fun j => mI (Pl j))), (ase, zI G 16 (fun j => nI (Se j))), (aor, zI G 12 (fun j => nI (O2 j))), (aba, zI G 12 (fun j => nI (B2 j))), (ali, zI G 12 (fun j => nI (L2 j)))] H locs → ∀ (ls : Array Slot), lv_has ls 6 [(4, .int (nI i)), (3, .int (nI o)), (2, .ref aor), (0, .ref m0), (1, .int (nI how))] → W p l e rm_Mo_work s m args below meth c H locs 0 0 Q (F0 m 38 ls []) := by
      intro fu38
      induction fu38 with
      | zero =>
        intro i o fi2 L2 O2 B2 hi hs ho hL2 hpo hm38
        exact absurd hm38 (Nat.not_lt_zero _)
      | succ fu38 ih38 =>
        intro i o fi2 L2 O2 B2 hi hs ho hL2 hpo hm38 H locs w ls hl
        refine lv_iload hx hb dMo_work_38 (lv_at hl 0 rfl) ?_
        refine lv_aload_n hx hb dMo_work_40 rfl (lv_at hl 3 rfl) ?_
        refine gf_Mo_68 Sf w.1 0 rfl rfl dMo_work_41 ?_
        refine z_icmpge (tgt := 166) hx hb (by omega) (by omega) dMo_work_44 (by decide) (fun c44 => ?_) (fun c44 => ?_)
        · skip
          refine lv_iload_n hx hb dMo_work_166 rfl (lv_at hl 4 rfl) ?_
          refine lv_iconst (v := (nI 5)) hx hb dMo_work_167 (by decide) ?_
          refine z_icmpne (tgt := 203) hx hb (by omega) (by omega) dMo_work_168 (by decide) (fun c168 => ?_) (fun c168 => ?_)
          · skip
            exact hret _ _ _ _ () _ w (by obtain rfl : i = n := (by omega); unfold wkZ; rw [← hs]) (trivial) dMo_work_203 rfl
          · skip
            exact absurd c168 (by omega)
        · skip
          have L134 : ∀ (a : Nat), (a < n) → (a = wkC how V Pl n (L2, o, O2, B2, fi2) i) → (2 ≤ how → o.testBit a = false) → ∀ (H : Heap) (locs : List Loc), zw G A s [(m0, zO 7 [.int (nI n), .ref av, .ref ab, .ref apl, .int (nI stt), .int (nI nf), .ref ase, .ref aco, .ref aen, .int (nI mem), .int (nI how), .int (nI 0), .ref aor, .ref aba, .int (nI fi2), .ref ali, .ref ale, .ref ach, .ref ast, .ref atw, .ref ats, .int (nI tp), .int (nI th)]), (av, zI G 12 (fun j => nI (V j))), (apl, zI G 12 (fun j => mI (Pl j))), (ase, zI G 16 (fun j => nI (Se j))), (aor, zI G 12 (fun j => nI (O2 j))), (aba, zI G 12 (fun j => nI (B2 j))), (ali, zI G 12 (fun j => nI (L2 j)))] H locs → ∀ (ls : Array Slot), lv_has ls 6 [(4, .int (nI i)), (3, .int (nI o)), (2, .ref aor), (0, .ref m0), (1, .int (nI how)), (5, .int (nI a))] → W p l e rm_Mo_work s m args below meth c H locs 0 0 Q (F0 m 134 ls []) := by
            intro a ha hca hfr H locs w ls hl
            refine lv_aload_n hx hb dMo_work_134 rfl (lv_at hl 2 rfl) ?_
            refine lv_iload hx hb dMo_work_135 (lv_at hl 0 rfl) ?_
            refine lv_iload hx hb dMo_work_137 (lv_at hl 5 rfl) ?_
            refine z_iastN hx hb w 4 (k := i) rfl (by omega) (by omega) (ws' := [(m0, zO 7 [.int (nI n), .ref av, .ref ab, .ref apl, .int (nI stt), .int (nI nf), .ref ase, .ref aco, .ref aen, .int (nI mem), .int (nI how), .int (nI 0), .ref aor, .ref aba, .int (nI fi2), .ref ali, .ref ale, .ref ach, .ref ast, .ref atw, .ref ats, .int (nI tp), .int (nI th)]), (av, zI G 12 (fun j => nI (V j))), (apl, zI G 12 (fun j => mI (Pl j))), (ase, zI G 16 (fun j => nI (Se j))), (aor, zI G 12 (fun j => nI ((va_up O2 i a) j))), (aba, zI G 12 (fun j => nI (B2 j))), (ali, zI G 12 (fun j => nI (L2 j)))]) rfl dMo_work_139 (fun H locs w => ?_)
            refine lv_iload_n hx hb dMo_work_140 rfl (lv_at hl 1 rfl) ?_
            refine lv_iconst (v := (nI 1)) hx hb dMo_work_141 (by decide) ?_
            refine lv_iload hx hb dMo_work_142 (lv_at hl 5 rfl) ?_
            refine z_shl1 hx hb (by omega) dMo_work_144 ?_
            refine z_orN hx hb dMo_work_145 ?_
            refine lv_istore_n (lv' := [(3, .int (nI (o ||| (2 ^ a)))), (4, .int (nI i)), (2, .ref aor), (0, .ref m0), (1, .int (nI how)), (5, .int (nI a))]) hx hb dMo_work_146 rfl hl (by decide) rfl (fun ls hl => ?_)
            refine lv_iload_n hx hb dMo_work_147 rfl (lv_at hl 4 rfl) ?_
            refine lv_iconst (v := (nI 5)) hx hb dMo_work_148 (by decide) ?_
            refine z_icmpge (tgt := 160) hx hb (by omega) (by omega) dMo_work_149 (by decide) (fun c149 => ?_) (fun c149 => ?_)
            · skip
              exact absurd c149 (by omega)
            · skip
              refine lv_aload_n hx hb dMo_work_152 rfl (lv_at hl 3 rfl) ?_
              refine lv_iload hx hb dMo_work_153 (lv_at hl 5 rfl) ?_
              refine lv_iload hx hb dMo_work_155 (lv_at hl 1 rfl) ?_
              refine z_wV (wr := [(av, zI G 12 (fun j => nI (V j))), (apl, zI G 12 (fun j => mI (Pl j))), (ase, zI G 16 (fun j => nI (Se j)))]) (As := [.int (nI a), .int (nI i)]) (rest := []) Sf (c_Mo_takeOut l G m0 av ab apl ase aco aen aor aba ali ale ach ast atw ats n stt nf mem how 0 fi2 tp th (va_up O2 i a) B2 L2 a i (by first | assumption | omega) ha (by omega) hL2 H.size) mv_Mo_139 ⟨rfl, rfl⟩ ⟨Nat.le_of_ble_eq_true rfl, Nat.le_of_ble_eq_true rfl⟩ w [0, 4, 5, 6] [1, 2, 3] rfl rfl (by decide) (by decide) (by decide) 0 rfl rfl rfl rfl hl.1 rfl (Nat.le_of_ble_eq_true rfl) dMo_work_157 ⟨Nat.le_of_ble_eq_true rfl, Nat.le_of_ble_eq_true rfl⟩ (fun u2 H locs hu2 w => ?_)
              have w := w.eq (ws' := [(av, zI G 12 (fun j => nI (V j))), (apl, zI G 12 (fun j => mI (Pl j))), (ase, zI G 16 (fun j => nI (Se j))), (m0, zO 7 [.int (nI n), .ref av, .ref ab, .ref apl, .int (nI stt), .int (nI nf), .ref ase, .ref aco, .ref aen, .int (nI mem), .int (nI how), .int (nI 0), .ref aor, .ref aba, .int (nI (fi2 + filF L2 a n)), .ref ali, .ref ale, .ref ach, .ref ast, .ref atw, .ref ats, .int (nI tp), .int (nI th)]), (aor, zI G 12 (fun j => nI ((va_up (va_up O2 i a) i a) j))), (aba, zI G 12 (fun j => nI ((va_up B2 i (L2 a ||| 2 ^ a)) j))), (ali, zI G 12 (fun j => nI ((toF L2 n a) j)))]) rfl
              refine W.eq (g2 := F0 m 160 ls []) rfl ?_
              refine z_iinc (d := 1) (lv' := [(4, .int (nI (i + 1))), (3, .int (nI (o ||| (2 ^ a)))), (2, .ref aor), (0, .ref m0), (1, .int (nI how)), (5, .int (nI a))]) hx hb dMo_work_160 hl (k := 1) rfl (by decide) (by decide) rfl (fun ls hl => ?_)
              refine lv_goto (tgt := 38) hx hb dMo_work_163 (by decide) ?_
              refine ih38 (i + 1) (o ||| (2 ^ a)) (fi2 + filF L2 a n) (toF L2 n a) (va_up (va_up O2 i a) i a) (va_up B2 i (L2 a ||| 2 ^ a)) ?_ ?_ ?_ ?_ ?_ ?_ _ _ (w.perm [3, 0, 1, 2, 4, 5, 6] (by decide) rfl) ls (lv_sub hl [0, 1, 2, 3, 4] rfl)
              · omega
              · rw [bx_uu]; simp only [wkF, ← hs, ← hca]; rfl
              · exact or_lt ho (pw_lt (by omega))
              · exact toF_lt hL2
              · intro q; rw [popP_or (hfr q) n, if_pos ha, hpo q]
              · omega
          refine lv_iload hx hb dMo_work_47 (lv_at hl 0 rfl) ?_
          refine lv_istore (lv' := [(5, .int (nI i)), (4, .int (nI i)), (3, .int (nI o)), (2, .ref aor), (0, .ref m0), (1, .int (nI how))]) hx hb dMo_work_49 hl (by decide) rfl (fun ls hl => ?_)
          refine lv_iload_n hx hb dMo_work_51 rfl (lv_at hl 5 rfl) ?_
          refine lv_iconst (v := (nI 1)) hx hb dMo_work_52 (by decide) ?_
          refine z_icmpne (tgt := 68) hx hb (by omega) (by omega) dMo_work_53 (by decide) (fun c53 => ?_) (fun c53 => ?_)
          · skip
            refine lv_iload_n hx hb dMo_work_68 rfl (lv_at hl 5 rfl) ?_
            refine lv_iconst (v := (nI 1)) hx hb dMo_work_69 (by decide) ?_
            refine z_icmple (tgt := 89) hx hb (by omega) (by omega) dMo_work_70 (by decide) (fun c70 => ?_) (fun c70 => ?_)
            · skip
              refine lv_iload_n hx hb dMo_work_89 rfl (lv_at hl 5 rfl) ?_
              refine lv_iconst (v := (nI 5)) hx hb dMo_work_90 (by decide) ?_
              refine z_icmpne (tgt := 134) hx hb (by omega) (by omega) dMo_work_91 (by decide) (fun c91 => ?_) (fun c91 => ?_)
              · skip
                refine L134 i ?_ ?_ ?_ _ _ w ls (lv_sub hl [1, 2, 3, 4, 5, 0] rfl)
                · omega
                · unfold wkC; first | (rw [if_pos c53, hp]; rfl) | (rw [if_neg c53, if_pos (by omega)]; show p2 = (pkF (pkC V L2 n how) o n).1 - 1; rw [hp.1]; rfl) | (rw [if_neg c53, if_neg (by omega)])
                · intro q; first | exact hp.2.2 | exact absurd q (by omega)
              · skip
                exact absurd c91 (by omega)
            · skip
              refine lv_iload_n hx hb dMo_work_73 rfl (lv_at hl 5 rfl) ?_
              refine lv_iconst (v := (nI 5)) hx hb dMo_work_74 (by decide) ?_
              refine z_icmpge (tgt := 89) hx hb (by omega) (by omega) dMo_work_75 (by decide) (fun c75 => ?_) (fun c75 => ?_)
              · skip
                exact absurd c75 (by omega)
              · skip
                refine lv_aload_n hx hb dMo_work_78 rfl (lv_at hl 4 rfl) ?_
                refine lv_iload_n hx hb dMo_work_79 rfl (lv_at hl 5 rfl) ?_
                refine lv_iload_n hx hb dMo_work_80 rfl (lv_at hl 2 rfl) ?_
                refine z_rV (As := [.int (nI how), .int (nI o)]) (rest := []) Sf (c_Mo_pick l G m0 av ab apl ase aco aen aor aba ali ale ach ast atw ats n stt nf mem how 0 fi2 tp th V L2 how o (by first | assumption | omega) (by first | assumption | omega) hL2 (by omega) ho) mv_Mo_136 ⟨rfl, rfl⟩ ⟨Nat.le_of_ble_eq_true rfl, Nat.le_of_ble_eq_true rfl⟩ w.1 [0, 1, 6] rfl 0 rfl rfl rfl rfl hl.1 rfl (Nat.le_of_ble_eq_true rfl) dMo_work_81 ⟨Nat.le_of_ble_eq_true rfl, Nat.le_of_ble_eq_true rfl⟩ ?_
                refine lv_istore (lv' := [(5, .int (mI ((pkF (pkC V L2 n how) o n).1))), (4, .int (nI i)), (3, .int (nI o)), (2, .ref aor), (0, .ref m0), (1, .int (nI how))]) hx hb dMo_work_84 hl (by decide) rfl (fun ls hl => ?_)
                obtain ⟨p2, hp⟩ := pick_ok (co := pkC V L2 n how) (hpo (by omega)) (show i < n by omega)
                have hl : lv_has ls 6 [(5, .int (nI p2)), (4, .int (nI i)), (3, .int (nI o)), (2, .ref aor), (0, .ref m0), (1, .int (nI how))] := by simpa only [hp.1, mI_s] using hl
                refine lv_goto (tgt := 134) hx hb dMo_work_86 (by decide) ?_
                refine L134 p2 ?_ ?_ ?_ _ _ w ls (lv_sub hl [1, 2, 3, 4, 5, 0] rfl)
                · omega
                · unfold wkC; first | (rw [if_pos c53, hp]; rfl) | (rw [if_neg c53, if_pos (by omega)]; show p2 = (pkF (pkC V L2 n how) o n).1 - 1; rw [hp.1]; rfl) | (rw [if_neg c53, if_neg (by omega)])
                · intro q; first | exact hp.2.2 | exact absurd q (by omega)
          · skip
            refine lv_aload_n hx hb dMo_work_56 rfl (lv_at hl 4 rfl) ?_
            refine gf_Mo_16 Sf w.1 0 rfl rfl dMo_work_57 ?_
            refine lv_iload hx hb dMo_work_60 (lv_at hl 1 rfl) ?_
            refine z_iald hx hb w.1 2 (k := i) rfl (by omega) (by omega) dMo_work_62 ?_
            refine lv_istore (lv' := [(5, .int (mI (Pl i))), (4, .int (nI i)), (3, .int (nI o)), (2, .ref aor), (0, .ref m0), (1, .int (nI how))]) hx hb dMo_work_63 hl (by decide) rfl (fun ls hl => ?_)
            obtain ⟨p2, hp⟩ : ∃ p2, Pl i = p2 + 1 := ⟨Pl i - 1, by have := hPl c53 i (by omega); omega⟩
            have hpn := hPl c53 i (by omega)
            have hl : lv_has ls 6 [(5, .int (nI p2)), (4, .int (nI i)), (3, .int (nI o)), (2, .ref aor), (0, .ref m0), (1, .int (nI how))] := by simpa only [hp, mI_s] using hl
            refine lv_goto (tgt := 134) hx hb dMo_work_65 (by decide) ?_
            refine L134 p2 ?_ ?_ ?_ _ _ w ls (lv_sub hl [1, 2, 3, 4, 5, 0] rfl)
            · omega
            · unfold wkC; first | (rw [if_pos c53, hp]; rfl) | (rw [if_neg c53, if_pos (by omega)]; show p2 = (pkF (pkC V L2 n how) o n).1 - 1; rw [hp.1]; rfl) | (rw [if_neg c53, if_neg (by omega)])
            · intro q; first | exact hp.2.2 | exact absurd q (by omega)
    refine L38 ((n - 0) + 1) 0 0 0 (rowF Li (drF Se nf) n) Od Bg ?_ ?_ ?_ ?_ ?_ ?_ _ _ (w.perm [4, 0, 1, 5, 2, 3, 6] (by decide) rfl) ls (lv_sub hl [0, 1, 2, 3, 4] rfl)
    · omega
    · rfl
    · omega
    · exact drw_lt hLi hSe
    · intro _; exact pop_zero n
    · exact Nat.lt_succ_self _
  · skip
    exact absurd c21 (by omega)

def rm_Mo_refresh0 : Room := { frames := 3, cells := 0, slots := 0, locals := 150 }
set_option maxHeartbeats 4000000 in
set_option maxRecDepth 100000 in
theorem c_Mo_refresh0 (l : Launch) (G : zG) (m0 av ab apl ase aco aen aor aba ali ale ach ast atw ats : Nat) (n stt nf mem kd sl fi tp th : Nat) (V Pl Se Od Bg Li : Nat → Nat) (hn : n ≤ 12) (hnf : nf ≤ 16) (hV : ∀ j, V j ≤ 4) (hSe : ∀ i, Se i < 4096) (hLi : ∀ i, Li i < 4096) (hsl : sl = 0) (sz : Nat) : Met l yMo_refresh (.code yMo_refresh cMo_refresh 1 none :: zT) rm_Mo_refresh0 (zPw G [.ref m0] [(m0, zO 7 [.int (nI n), .ref av, .ref ab, .ref apl, .int (nI stt), .int (nI nf), .ref ase, .ref aco, .ref aen, .int (nI mem), .int (nI kd), .int (nI sl), .ref aor, .ref aba, .int (nI fi), .ref ali, .ref ale, .ref ach, .ref ast, .ref atw, .ref ats, .int (nI tp), .int (nI th)]), (av, zI G 12 (fun j => nI (V j))), (apl, zI G 12 (fun j => mI (Pl j))), (ase, zI G 16 (fun j => nI (Se j))), (aor, zI G 12 (fun j => nI (Od j))), (aba, zI G 12 (fun j => nI (Bg j))), (ali, zI G 12 (fun j => nI (Li j)))] sz) (zQ (S := Unit) G (fun u => none) (fun u => [(m0, zO 7 [.int (nI n), .ref av, .ref ab, .ref apl, .int (nI stt), .int (nI nf), .ref ase, .ref aco, .ref aen, .int (nI mem), .int (nI kd), .int (nI sl), .ref aor, .ref aba, .int (nI fi), .ref ali, .ref ale, .ref ach, .ref ast, .ref atw, .ref ats, .int (nI tp), .int (nI th)]), (av, zI G 12 (fun j => nI (V j))), (apl, zI G 12 (fun j => mI (Pl j))), (ase, zI G 16 (fun j => nI (Se j))), (aor, zI G 12 (fun j => nI (Od j))), (aba, zI G 12 (fun j => nI (Bg j))), (ali, zI G 12 (fun j => nI (Li j)))]) (va_A [(m0, zO 7 [.int (nI n), .ref av, .ref ab, .ref apl, .int (nI stt), .int (nI nf), .ref ase, .ref aco, .ref aen, .int (nI mem), .int (nI kd), .int (nI sl), .ref aor, .ref aba, .int (nI fi), .ref ali, .ref ale, .ref ach, .ref ast, .ref atw, .ref ats, .int (nI tp), .int (nI th)]), (av, zI G 12 (fun j => nI (V j))), (apl, zI G 12 (fun j => mI (Pl j))), (ase, zI G 16 (fun j => nI (Se j))), (aor, zI G 12 (fun j => nI (Od j))), (aba, zI G 12 (fun j => nI (Bg j))), (ali, zI G 12 (fun j => nI (Li j)))] sz) (fun u => True)) 0 0 (va_A [(m0, zO 7 [.int (nI n), .ref av, .ref ab, .ref apl, .int (nI stt), .int (nI nf), .ref ase, .ref aco, .ref aen, .int (nI mem), .int (nI kd), .int (nI sl), .ref aor, .ref aba, .int (nI fi), .ref ali, .ref ale, .ref ach, .ref ast, .ref atw, .ref ats, .int (nI tp), .int (nI th)]), (av, zI G 12 (fun j => nI (V j))), (apl, zI G 12 (fun j => mI (Pl j))), (ase, zI G 16 (fun j => nI (Se j))), (aor, zI G 12 (fun j => nI (Od j))), (aba, zI G 12 (fun j => nI (Bg j))), (ali, zI G 12 (fun j => nI (Li j)))] sz) := by
  refine z_metWv (by decide) (Nat.le_of_ble_eq_true rfl) (fun p e s m args below meth c ls A Q Sf hnm w hl hret => ?_)
  obtain ⟨H, hH⟩ : ∃ H, H = s.heap := ⟨_, rfl⟩
  obtain ⟨locs, hlo⟩ : ∃ L : List Loc, L = [] := ⟨_, rfl⟩
  rw [← hH, ← hlo] at w
  rw [← hH, ← hlo]
  clear hH hlo
  have Sf : CallFix p m c cMo_refresh 1 s args zT RMo := Sf
  have hx := Sf.1
  have hb := Sf.2.1
  have hown := Sf.2.2.2.1
  have hts := Sf.2.2.2.2
  have hl : lv_has ls 1 [(0, .ref m0)] := hl
  refine lv_aload_n hx hb dMo_refresh_0 rfl (lv_at hl 0 rfl) ?_
  refine gf_Mo_61 Sf w.1 0 rfl rfl dMo_refresh_1 ?_
  refine z_ifeqN (tgt := 12) hx hb (by omega) dMo_refresh_4 (by decide) (fun c4 => ?_) (fun c4 => ?_)
  · skip
    exact hret _ _ _ _ () _ w (rfl) (trivial) dMo_refresh_12 rfl
  · skip
    exact absurd c4 (by omega)

def rm_Mo_refresh1 : Room := { frames := 3, cells := 0, slots := 0, locals := 150 }
set_option maxHeartbeats 4000000 in
set_option maxRecDepth 100000 in
theorem c_Mo_refresh1 (l : Launch) (G : zG) (m0 av ab apl ase aco aen aor aba ali ale ach ast atw ats : Nat) (n stt nf mem kd sl fi tp th : Nat) (V Pl Se Od Bg Li : Nat → Nat) (hn : n ≤ 12) (hnf : nf ≤ 16) (hV : ∀ j, V j ≤ 4) (hSe : ∀ i, Se i < 4096) (hLi : ∀ i, Li i < 4096) (hsl : sl = 1) (sz : Nat) : Met l yMo_refresh (.code yMo_refresh cMo_refresh 1 none :: zT) rm_Mo_refresh1 (zPw G [.ref m0] [(m0, zO 7 [.int (nI n), .ref av, .ref ab, .ref apl, .int (nI stt), .int (nI nf), .ref ase, .ref aco, .ref aen, .int (nI mem), .int (nI kd), .int (nI sl), .ref aor, .ref aba, .int (nI fi), .ref ali, .ref ale, .ref ach, .ref ast, .ref atw, .ref ats, .int (nI tp), .int (nI th)]), (av, zI G 12 (fun j => nI (V j))), (apl, zI G 12 (fun j => mI (Pl j))), (ase, zI G 16 (fun j => nI (Se j))), (aor, zI G 12 (fun j => nI (Od j))), (aba, zI G 12 (fun j => nI (Bg j))), (ali, zI G 12 (fun j => nI (Li j)))] sz) (zQ (S := Unit) G (fun u => none) (fun u => [(m0, zO 7 [.int (nI n), .ref av, .ref ab, .ref apl, .int (nI stt), .int (nI nf), .ref ase, .ref aco, .ref aen, .int (nI mem), .int (nI 0), .int (nI 0), .ref aor, .ref aba, .int (nI ((wkZ 0 V Pl Se Li Od Bg n nf).2.2.2.2)), .ref ali, .ref ale, .ref ach, .ref ast, .ref atw, .ref ats, .int (nI tp), .int (nI th)]), (av, zI G 12 (fun j => nI (V j))), (apl, zI G 12 (fun j => mI (Pl j))), (ase, zI G 16 (fun j => nI (Se j))), (aor, zI G 12 (fun j => nI (((wkZ 0 V Pl Se Li Od Bg n nf).2.2.1) j))), (aba, zI G 12 (fun j => nI (((wkZ 0 V Pl Se Li Od Bg n nf).2.2.2.1) j))), (ali, zI G 12 (fun j => nI (((wkZ 0 V Pl Se Li Od Bg n nf).1) j)))]) (va_A [(m0, zO 7 [.int (nI n), .ref av, .ref ab, .ref apl, .int (nI stt), .int (nI nf), .ref ase, .ref aco, .ref aen, .int (nI mem), .int (nI kd), .int (nI sl), .ref aor, .ref aba, .int (nI fi), .ref ali, .ref ale, .ref ach, .ref ast, .ref atw, .ref ats, .int (nI tp), .int (nI th)]), (av, zI G 12 (fun j => nI (V j))), (apl, zI G 12 (fun j => mI (Pl j))), (ase, zI G 16 (fun j => nI (Se j))), (aor, zI G 12 (fun j => nI (Od j))), (aba, zI G 12 (fun j => nI (Bg j))), (ali, zI G 12 (fun j => nI (Li j)))] sz) (fun u => True)) 0 0 (va_A [(m0, zO 7 [.int (nI n), .ref av, .ref ab, .ref apl, .int (nI stt), .int (nI nf), .ref ase, .ref aco, .ref aen, .int (nI mem), .int (nI kd), .int (nI sl), .ref aor, .ref aba, .int (nI fi), .ref ali, .ref ale, .ref ach, .ref ast, .ref atw, .ref ats, .int (nI tp), .int (nI th)]), (av, zI G 12 (fun j => nI (V j))), (apl, zI G 12 (fun j => mI (Pl j))), (ase, zI G 16 (fun j => nI (Se j))), (aor, zI G 12 (fun j => nI (Od j))), (aba, zI G 12 (fun j => nI (Bg j))), (ali, zI G 12 (fun j => nI (Li j)))] sz) := by
  refine z_metWv (by decide) (Nat.le_of_ble_eq_true rfl) (fun p e s m args below meth c ls A Q Sf hnm w hl hret => ?_)
  obtain ⟨H, hH⟩ : ∃ H, H = s.heap := ⟨_, rfl⟩
  obtain ⟨locs, hlo⟩ : ∃ L : List Loc, L = [] := ⟨_, rfl⟩
  rw [← hH, ← hlo] at w
  rw [← hH, ← hlo]
  clear hH hlo
  have Sf : CallFix p m c cMo_refresh 1 s args zT RMo := Sf
  have hx := Sf.1
  have hb := Sf.2.1
  have hown := Sf.2.2.2.1
  have hts := Sf.2.2.2.2
  have hl : lv_has ls 1 [(0, .ref m0)] := hl
  refine lv_aload_n hx hb dMo_refresh_0 rfl (lv_at hl 0 rfl) ?_
  refine gf_Mo_61 Sf w.1 0 rfl rfl dMo_refresh_1 ?_
  refine z_ifeqN (tgt := 12) hx hb (by omega) dMo_refresh_4 (by decide) (fun c4 => ?_) (fun c4 => ?_)
  · skip
    exact absurd c4 (by omega)
  · skip
    refine lv_aload_n hx hb dMo_refresh_7 rfl (lv_at hl 0 rfl) ?_
    refine lv_iconst (v := (nI 0)) hx hb dMo_refresh_8 (by decide) ?_
    refine z_wV (wr := []) (As := [.int (nI 0)]) (rest := []) Sf (c_Mo_work l G m0 av ab apl ase aco aen aor aba ali ale ach ast atw ats n stt nf mem kd sl fi tp th V Pl Se Od Bg Li 0 (by first | assumption | omega) (by first | assumption | omega) (by first | assumption | omega) (by first | assumption | omega) (by first | assumption | omega) (by decide) (fun q => absurd q (by decide)) H.size) mv_Mo_143 ⟨rfl, rfl⟩ ⟨Nat.le_of_ble_eq_true rfl, Nat.le_of_ble_eq_true rfl⟩ w [0, 1, 2, 3, 4, 5, 6] [] rfl rfl (by decide) (by decide) (by decide) 0 rfl rfl rfl rfl hl.1 rfl (Nat.le_of_ble_eq_true rfl) dMo_refresh_9 ⟨Nat.le_of_ble_eq_true rfl, Nat.le_of_ble_eq_true rfl⟩ (fun u1 H locs hu1 w => ?_)
    have w := w.eq (ws' := [(m0, zO 7 [.int (nI n), .ref av, .ref ab, .ref apl, .int (nI stt), .int (nI nf), .ref ase, .ref aco, .ref aen, .int (nI mem), .int (nI 0), .int (nI 0), .ref aor, .ref aba, .int (nI ((wkZ 0 V Pl Se Li Od Bg n nf).2.2.2.2)), .ref ali, .ref ale, .ref ach, .ref ast, .ref atw, .ref ats, .int (nI tp), .int (nI th)]), (av, zI G 12 (fun j => nI (V j))), (apl, zI G 12 (fun j => mI (Pl j))), (ase, zI G 16 (fun j => nI (Se j))), (aor, zI G 12 (fun j => nI (((wkZ 0 V Pl Se Li Od Bg n nf).2.2.1) j))), (aba, zI G 12 (fun j => nI (((wkZ 0 V Pl Se Li Od Bg n nf).2.2.2.1) j))), (ali, zI G 12 (fun j => nI (((wkZ 0 V Pl Se Li Od Bg n nf).1) j)))]) rfl
    refine W.eq (g2 := F0 m 12 ls []) rfl ?_
    exact hret _ _ _ _ () _ w (rfl) (trivial) dMo_refresh_12 rfl
