def rm_Mo_work5 : Room := { frames := 3, cells := 0, slots := 0, locals := 150 }
set_option maxHeartbeats 4000000 in
set_option maxRecDepth 100000 in
theorem c_Mo_work5 (l : Launch) (G : zG) (m0 av ab apl ase aco aen aor aba ali ale ach ast atw ats : Nat) (n stt nf mem kd sl fi tp th : Nat) (V Se Od Bg Li Le Ch : Nat → Nat) (hn : n ≤ 12) (hnf : nf ≤ 16) (hV : ∀ j, V j ≤ 4) (hSe : ∀ i, Se i < 4096) (hLi : ∀ i, Li i < 4096) (hLe : ∀ i, Le i ≤ 101) (hCh : ∀ i, Ch i ≤ 137438953472) (sz : Nat) : Met l yMo_work (.code yMo_work cMo_work 6 none :: zT) rm_Mo_work5 (zPw G [.ref m0, .int (nI 5)] [(m0, zO 7 [.int (nI n), .ref av, .ref ab, .ref apl, .int (nI stt), .int (nI nf), .ref ase, .ref aco, .ref aen, .int (nI mem), .int (nI kd), .int (nI sl), .ref aor, .ref aba, .int (nI fi), .ref ali, .ref ale, .ref ach, .ref ast, .ref atw, .ref ats, .int (nI tp), .int (nI th)]), (av, zI G 12 (fun j => nI (V j))), (ase, zI G 16 (fun j => nI (Se j))), (aor, zI G 12 (fun j => nI (Od j))), (aba, zI G 12 (fun j => nI (Bg j))), (ali, zI G 12 (fun j => nI (Li j))), (ale, zI G 4096 (fun j => mI (Le j))), (ach, zL G 4096 (fun j => mL (Ch j)))] sz) (zQ (S := Unit) G (fun u => none) (fun u => [(m0, zO 7 [.int (nI n), .ref av, .ref ab, .ref apl, .int (nI stt), .int (nI nf), .ref ase, .ref aco, .ref aen, .int (nI mem), .int (nI 5), .int (nI 0), .ref aor, .ref aba, .int (nI ((wkF 1 V (fun i => (ob5 V (rowF Li (drF Se nf) n) (chA V (rowF Li (drF Se nf) n) Ch n ((lwA (rowF Li (drF Se nf) n) Le n (2 ^ n - 1)) 0) (2 ^ n - 1)) Od n ((lwA (rowF Li (drF Se nf) n) Le n (2 ^ n - 1)) 0) n).2 i + 1) n (rowF Li (drF Se nf) n, 0, (ob5 V (rowF Li (drF Se nf) n) (chA V (rowF Li (drF Se nf) n) Ch n ((lwA (rowF Li (drF Se nf) n) Le n (2 ^ n - 1)) 0) (2 ^ n - 1)) Od n ((lwA (rowF Li (drF Se nf) n) Le n (2 ^ n - 1)) 0) n).2, Bg, 0) n).2.2.2.2)), .ref ali, .ref ale, .ref ach, .ref ast, .ref atw, .ref ats, .int (nI tp), .int (nI th)]), (av, zI G 12 (fun j => nI (V j))), (ase, zI G 16 (fun j => nI (Se j))), (aor, zI G 12 (fun j => nI (((ob5 V (rowF Li (drF Se nf) n) (chA V (rowF Li (drF Se nf) n) Ch n ((lwA (rowF Li (drF Se nf) n) Le n (2 ^ n - 1)) 0) (2 ^ n - 1)) Od n ((lwA (rowF Li (drF Se nf) n) Le n (2 ^ n - 1)) 0) n).2) j))), (aba, zI G 12 (fun j => nI (((wkF 1 V (fun i => (ob5 V (rowF Li (drF Se nf) n) (chA V (rowF Li (drF Se nf) n) Ch n ((lwA (rowF Li (drF Se nf) n) Le n (2 ^ n - 1)) 0) (2 ^ n - 1)) Od n ((lwA (rowF Li (drF Se nf) n) Le n (2 ^ n - 1)) 0) n).2 i + 1) n (rowF Li (drF Se nf) n, 0, (ob5 V (rowF Li (drF Se nf) n) (chA V (rowF Li (drF Se nf) n) Ch n ((lwA (rowF Li (drF Se nf) n) Le n (2 ^ n - 1)) 0) (2 ^ n - 1)) Od n ((lwA (rowF Li (drF Se nf) n) Le n (2 ^ n - 1)) 0) n).2, Bg, 0) n).2.2.2.1) j))), (ali, zI G 12 (fun j => nI (((wkF 1 V (fun i => (ob5 V (rowF Li (drF Se nf) n) (chA V (rowF Li (drF Se nf) n) Ch n ((lwA (rowF Li (drF Se nf) n) Le n (2 ^ n - 1)) 0) (2 ^ n - 1)) Od n ((lwA (rowF Li (drF Se nf) n) Le n (2 ^ n - 1)) 0) n).2 i + 1) n (rowF Li (drF Se nf) n, 0, (ob5 V (rowF Li (drF Se nf) n) (chA V (rowF Li (drF Se nf) n) Ch n ((lwA (rowF Li (drF Se nf) n) Le n (2 ^ n - 1)) 0) (2 ^ n - 1)) Od n ((lwA (rowF Li (drF Se nf) n) Le n (2 ^ n - 1)) 0) n).2, Bg, 0) n).1) j))), (ale, zI G 4096 (fun j => mI ((lwA (rowF Li (drF Se nf) n) Le n (2 ^ n - 1)) j))), (ach, zL G 4096 (fun j => mL ((chA V (rowF Li (drF Se nf) n) Ch n ((lwA (rowF Li (drF Se nf) n) Le n (2 ^ n - 1)) 0) (2 ^ n - 1)) j)))]) (va_A [(m0, zO 7 [.int (nI n), .ref av, .ref ab, .ref apl, .int (nI stt), .int (nI nf), .ref ase, .ref aco, .ref aen, .int (nI mem), .int (nI kd), .int (nI sl), .ref aor, .ref aba, .int (nI fi), .ref ali, .ref ale, .ref ach, .ref ast, .ref atw, .ref ats, .int (nI tp), .int (nI th)]), (av, zI G 12 (fun j => nI (V j))), (ase, zI G 16 (fun j => nI (Se j))), (aor, zI G 12 (fun j => nI (Od j))), (aba, zI G 12 (fun j => nI (Bg j))), (ali, zI G 12 (fun j => nI (Li j))), (ale, zI G 4096 (fun j => mI (Le j))), (ach, zL G 4096 (fun j => mL (Ch j)))] sz) (fun u => ∀ j, j < n → (ob5 V (rowF Li (drF Se nf) n) (chA V (rowF Li (drF Se nf) n) Ch n ((lwA (rowF Li (drF Se nf) n) Le n (2 ^ n - 1)) 0) (2 ^ n - 1)) Od n ((lwA (rowF Li (drF Se nf) n) Le n (2 ^ n - 1)) 0) n).2 j < n)) 0 0 (va_A [(m0, zO 7 [.int (nI n), .ref av, .ref ab, .ref apl, .int (nI stt), .int (nI nf), .ref ase, .ref aco, .ref aen, .int (nI mem), .int (nI kd), .int (nI sl), .ref aor, .ref aba, .int (nI fi), .ref ali, .ref ale, .ref ach, .ref ast, .ref atw, .ref ats, .int (nI tp), .int (nI th)]), (av, zI G 12 (fun j => nI (V j))), (ase, zI G 16 (fun j => nI (Se j))), (aor, zI G 12 (fun j => nI (Od j))), (aba, zI G 12 (fun j => nI (Bg j))), (ali, zI G 12 (fun j => nI (Li j))), (ale, zI G 4096 (fun j => mI (Le j))), (ach, zL G 4096 (fun j => mL (Ch j)))] sz) := by
  refine z_metWv (by decide) (Nat.le_of_ble_eq_true rfl) (fun p e s m args below meth c ls A Q Sf hnm w hl hret => ?_)
  obtain ⟨H, hH⟩ : ∃ H, H = s.heap := ⟨_, rfl⟩
  obtain ⟨locs, hlo⟩ : ∃ L : List Loc, L = [] := ⟨_, rfl⟩
  rw [← hH, ← hlo] at w
  rw [← hH, ← hlo]
  clear hH hlo
  have Sf : CallFix p m c cMo_work 6 s args zT RMo := Sf
  have hx := Sf.1
  have hb := Sf.2.1
  have hown := Sf.2.2.2.1
  have hts := Sf.2.2.2.2
  have hl : lv_has ls 6 [(0, .ref m0), (1, .int (nI 5))] := hl
  have h2n : 1 ≤ 2 ^ n := Nat.one_le_two_pow
  have h2m : 2 ^ n ≤ 4096 := Nat.pow_le_pow_right (by decide) hn
  have hD : ∀ i, rowF Li (drF Se nf) n i < 4096 := drw_lt hLi hSe
  refine lv_aload_n hx hb dMo_work_0 rfl (lv_at hl 0 rfl) ?_
  refine lv_iload_n hx hb dMo_work_1 rfl (lv_at hl 1 rfl) ?_
  refine pf_Mo_127 Sf w 0 rfl rfl rfl (Nat.le_of_ble_eq_true rfl) (ws' := [(m0, zO 7 [.int (nI n), .ref av, .ref ab, .ref apl, .int (nI stt), .int (nI nf), .ref ase, .ref aco, .ref aen, .int (nI mem), .int (nI 5), .int (nI sl), .ref aor, .ref aba, .int (nI fi), .ref ali, .ref ale, .ref ach, .ref ast, .ref atw, .ref ats, .int (nI tp), .int (nI th)]), (av, zI G 12 (fun j => nI (V j))), (ase, zI G 16 (fun j => nI (Se j))), (aor, zI G 12 (fun j => nI (Od j))), (aba, zI G 12 (fun j => nI (Bg j))), (ali, zI G 12 (fun j => nI (Li j))), (ale, zI G 4096 (fun j => mI (Le j))), (ach, zL G 4096 (fun j => mL (Ch j)))]) rfl dMo_work_2 (fun H locs w => ?_)
  refine lv_aload_n hx hb dMo_work_5 rfl (lv_at hl 0 rfl) ?_
  refine lv_iconst (v := (nI 0)) hx hb dMo_work_6 (by decide) ?_
  refine pf_Mo_61 Sf w 0 rfl rfl rfl (Nat.le_of_ble_eq_true rfl) (ws' := [(m0, zO 7 [.int (nI n), .ref av, .ref ab, .ref apl, .int (nI stt), .int (nI nf), .ref ase, .ref aco, .ref aen, .int (nI mem), .int (nI 5), .int (nI 0), .ref aor, .ref aba, .int (nI fi), .ref ali, .ref ale, .ref ach, .ref ast, .ref atw, .ref ats, .int (nI tp), .int (nI th)]), (av, zI G 12 (fun j => nI (V j))), (ase, zI G 16 (fun j => nI (Se j))), (aor, zI G 12 (fun j => nI (Od j))), (aba, zI G 12 (fun j => nI (Bg j))), (ali, zI G 12 (fun j => nI (Li j))), (ale, zI G 4096 (fun j => mI (Le j))), (ach, zL G 4096 (fun j => mL (Ch j)))]) rfl dMo_work_7 (fun H locs w => ?_)
  refine lv_aload_n hx hb dMo_work_10 rfl (lv_at hl 0 rfl) ?_
  refine lv_iconst (v := (nI 0)) hx hb dMo_work_11 (by decide) ?_
  refine pf_Mo_113 Sf w 0 rfl rfl rfl (Nat.le_of_ble_eq_true rfl) (ws' := [(m0, zO 7 [.int (nI n), .ref av, .ref ab, .ref apl, .int (nI stt), .int (nI nf), .ref ase, .ref aco, .ref aen, .int (nI mem), .int (nI 5), .int (nI 0), .ref aor, .ref aba, .int (nI 0), .ref ali, .ref ale, .ref ach, .ref ast, .ref atw, .ref ats, .int (nI tp), .int (nI th)]), (av, zI G 12 (fun j => nI (V j))), (ase, zI G 16 (fun j => nI (Se j))), (aor, zI G 12 (fun j => nI (Od j))), (aba, zI G 12 (fun j => nI (Bg j))), (ali, zI G 12 (fun j => nI (Li j))), (ale, zI G 4096 (fun j => mI (Le j))), (ach, zL G 4096 (fun j => mL (Ch j)))]) rfl dMo_work_12 (fun H locs w => ?_)
  refine lv_aload_n hx hb dMo_work_15 rfl (lv_at hl 0 rfl) ?_
  refine z_wV (wr := [(av, zI G 12 (fun j => nI (V j))), (aor, zI G 12 (fun j => nI (Od j))), (aba, zI G 12 (fun j => nI (Bg j))), (ale, zI G 4096 (fun j => mI (Le j))), (ach, zL G 4096 (fun j => mL (Ch j)))]) (As := []) (rest := []) Sf (c_Mo_draw l G m0 av ab apl ase aco aen aor aba ali ale ach ast atw ats n stt nf mem 5 0 0 tp th Se Li (by first | assumption | omega) (by first | assumption | omega) (by first | assumption | omega) H.size) mv_Mo_130 ⟨rfl, rfl⟩ ⟨Nat.le_of_ble_eq_true rfl, Nat.le_of_ble_eq_true rfl⟩ w [0, 2, 5] [1, 3, 4, 6, 7] rfl rfl (by decide) (by decide) (by decide) 0 rfl rfl rfl rfl hl.1 rfl (Nat.le_of_ble_eq_true rfl) dMo_work_16 ⟨Nat.le_of_ble_eq_true rfl, Nat.le_of_ble_eq_true rfl⟩ (fun u1 H locs hu1 w => ?_)
  have w := w.eq (ws' := [(av, zI G 12 (fun j => nI (V j))), (aor, zI G 12 (fun j => nI (Od j))), (aba, zI G 12 (fun j => nI (Bg j))), (ale, zI G 4096 (fun j => mI (Le j))), (ach, zL G 4096 (fun j => mL (Ch j))), (m0, zO 7 [.int (nI n), .ref av, .ref ab, .ref apl, .int (nI stt), .int (nI nf), .ref ase, .ref aco, .ref aen, .int (nI mem), .int (nI 5), .int (nI 0), .ref aor, .ref aba, .int (nI 0), .ref ali, .ref ale, .ref ach, .ref ast, .ref atw, .ref ats, .int (nI tp), .int (nI th)]), (ase, zI G 16 (fun j => nI (Se j))), (ali, zI G 12 (fun j => nI ((rowF Li (drF Se nf) n) j)))]) rfl
  refine W.eq (g2 := F0 m 19 ls []) rfl ?_
  refine lv_iload_n hx hb dMo_work_19 rfl (lv_at hl 1 rfl) ?_
  refine lv_iconst (v := (nI 5)) hx hb dMo_work_20 (by decide) ?_
  refine z_icmpne (tgt := 28) hx hb (by decide) (by decide) dMo_work_21 (by decide) (fun q => absurd q (by decide)) (fun _ => ?_)
  refine lv_aload_n hx hb dMo_work_24 rfl (lv_at hl 0 rfl) ?_
  refine z_wV (wr := [(aor, zI G 12 (fun j => nI (Od j))), (aba, zI G 12 (fun j => nI (Bg j))), (ase, zI G 16 (fun j => nI (Se j)))]) (As := []) (rest := []) Sf (c_Mo_weighAll l G m0 av ab apl ase aco aen aor aba ali ale ach ast atw ats n stt nf mem 5 0 0 tp th V (rowF Li (drF Se nf) n) Le Ch (by first | assumption | omega) (by first | assumption | omega) hD (by first | assumption | omega) H.size) mv_Mo_133 ⟨rfl, rfl⟩ ⟨Nat.le_of_ble_eq_true rfl, Nat.le_of_ble_eq_true rfl⟩ w [5, 0, 7, 3, 4] [1, 2, 6] rfl rfl (by decide) (by decide) (by decide) 5 rfl rfl rfl rfl hl.1 rfl (Nat.le_of_ble_eq_true rfl) dMo_work_25 ⟨Nat.le_of_ble_eq_true rfl, Nat.le_of_ble_eq_true rfl⟩ (fun u2 H locs hu2 w => ?_)
  have w := w.eq (ws' := [(aor, zI G 12 (fun j => nI (Od j))), (aba, zI G 12 (fun j => nI (Bg j))), (ase, zI G 16 (fun j => nI (Se j))), (m0, zO 7 [.int (nI n), .ref av, .ref ab, .ref apl, .int (nI stt), .int (nI nf), .ref ase, .ref aco, .ref aen, .int (nI mem), .int (nI 5), .int (nI 0), .ref aor, .ref aba, .int (nI 0), .ref ali, .ref ale, .ref ach, .ref ast, .ref atw, .ref ats, .int (nI tp), .int (nI th)]), (av, zI G 12 (fun j => nI (V j))), (ali, zI G 12 (fun j => nI ((rowF Li (drF Se nf) n) j))), (ale, zI G 4096 (fun j => mI ((lwA (rowF Li (drF Se nf) n) Le n (2 ^ n - 1)) j))), (ach, zL G 4096 (fun j => mL ((chA V (rowF Li (drF Se nf) n) Ch n (lwA (rowF Li (drF Se nf) n) Le n (2 ^ n - 1) 0) (2 ^ n - 1)) j)))]) rfl
  refine W.eq (g2 := F0 m 28 ls []) rfl ?_
  refine lv_aload_n hx hb dMo_work_28 rfl (lv_at hl 0 rfl) ?_
  refine gf_Mo_28 Sf w.1 3 rfl rfl dMo_work_29 ?_
  refine lv_astore_n (lv' := [(2, .ref aor), (0, .ref m0), (1, .int (nI 5))]) hx hb dMo_work_32 rfl hl (by decide) rfl (fun ls hl => ?_)
  refine lv_iconst (v := (nI 0)) hx hb dMo_work_33 (by decide) ?_
  refine lv_istore_n (lv' := [(3, .int (nI 0)), (2, .ref aor), (0, .ref m0), (1, .int (nI 5))]) hx hb dMo_work_34 rfl hl (by decide) rfl (fun ls hl => ?_)
  refine lv_iconst (v := (nI 0)) hx hb dMo_work_35 (by decide) ?_
  refine lv_istore (lv' := [(4, .int (nI 0)), (3, .int (nI 0)), (2, .ref aor), (0, .ref m0), (1, .int (nI 5))]) hx hb dMo_work_36 hl (by decide) rfl (fun ls hl => ?_)
  have L38 : ∀ (fu38 : Nat) (i o : Nat) (O2 : Nat → Nat), (i ≤ n) → ((o, O2) = ob5 V (rowF Li (drF Se nf) n) (chA V (rowF Li (drF Se nf) n) Ch n ((lwA (rowF Li (drF Se nf) n) Le n (2 ^ n - 1)) 0) (2 ^ n - 1)) Od n ((lwA (rowF Li (drF Se nf) n) Le n (2 ^ n - 1)) 0) i) → (o < 2 ^ n) → (popP o n = i) → (∀ j, j < i → O2 j < n) → (n - i) < fu38 → ∀ (H : Heap) (locs : List Loc), zw G A s [(m0, zO 7 [.int (nI n), .ref av, .ref ab, .ref apl, .int (nI stt), .int (nI nf), .ref ase, .ref aco, .ref aen, .int (nI mem), .int (nI 5), .int (nI 0), .ref aor, .ref aba, .int (nI 0), .ref ali, .ref ale, .ref ach, .ref ast, .ref atw, .ref ats, .int (nI tp), .int (nI th)]), (av, zI G 12 (fun j => nI (V j))), (ase, zI G 16 (fun j => nI (Se j))), (aor, zI G 12 (fun j => nI (O2 j))), (aba, zI G 12 (fun j => nI (Bg j))), (ali, zI G 12 (fun j => nI ((rowF Li (drF Se nf) n) j))), (ale, zI G 4096 (fun j => mI ((lwA (rowF Li (drF Se nf) n) Le n (2 ^ n - 1)) j))), (ach, zL G 4096 (fun j => mL ((chA V (rowF Li (drF Se nf) n) Ch n ((lwA (rowF Li (drF Se nf) n) Le n (2 ^ n - 1)) 0) (2 ^ n - 1)) j)))] H locs → ∀ (ls : Array Slot), lv_has ls 6 [(4, .int (nI i)), (3, .int (nI o)), (2, .ref aor), (0, .ref m0), (1, .int (nI 5))] → W p l e rm_Mo_work5 s m args below meth c H locs 0 0 Q (F0 m 38 ls []) := by
    intro fu38
    induction fu38 with
    | zero =>
      intro i o O2 hi hs ho hpo hO hm38
      exact absurd hm38 (Nat.not_lt_zero _)
    | succ fu38 ih38 =>
      intro i o O2 hi hs ho hpo hO hm38 H locs w ls hl
      refine lv_iload hx hb dMo_work_38 (lv_at hl 0 rfl) ?_
      refine lv_aload_n hx hb dMo_work_40 rfl (lv_at hl 3 rfl) ?_
      refine gf_Mo_68 Sf w.1 0 rfl rfl dMo_work_41 ?_
      refine z_icmpge (tgt := 166) hx hb (by omega) (by omega) dMo_work_44 (by decide) (fun c44 => ?_) (fun c44 => ?_)
      · skip
        have hO2n : O2 = (ob5 V (rowF Li (drF Se nf) n) (chA V (rowF Li (drF Se nf) n) Ch n ((lwA (rowF Li (drF Se nf) n) Le n (2 ^ n - 1)) 0) (2 ^ n - 1)) Od n ((lwA (rowF Li (drF Se nf) n) Le n (2 ^ n - 1)) 0) n).2 := by
          obtain rfl : i = n := (by omega)
          rw [← hs]
        have hOn : ∀ j, j < n → O2 j < n := fun j hj => hO j (by omega)
        refine lv_iload_n hx hb dMo_work_166 rfl (lv_at hl 4 rfl) ?_
        refine lv_iconst (v := (nI 5)) hx hb dMo_work_167 (by decide) ?_
        refine z_icmpne (tgt := 203) hx hb (by decide) (by decide) dMo_work_168 (by decide) (fun q => absurd q (by decide)) (fun _ => ?_)
        refine lv_aload_n hx hb dMo_work_171 rfl (lv_at hl 3 rfl) ?_
        refine z_wV (wr := [(av, zI G 12 (fun j => nI (V j))), (aor, zI G 12 (fun j => nI (O2 j))), (aba, zI G 12 (fun j => nI (Bg j))), (ale, zI G 4096 (fun j => mI ((lwA (rowF Li (drF Se nf) n) Le n (2 ^ n - 1)) j))), (ach, zL G 4096 (fun j => mL ((chA V (rowF Li (drF Se nf) n) Ch n ((lwA (rowF Li (drF Se nf) n) Le n (2 ^ n - 1)) 0) (2 ^ n - 1)) j)))]) (As := []) (rest := []) Sf (c_Mo_draw l G m0 av ab apl ase aco aen aor aba ali ale ach ast atw ats n stt nf mem 5 0 0 tp th Se (rowF Li (drF Se nf) n) (by first | assumption | omega) (by first | assumption | omega) (by first | assumption | omega) H.size) mv_Mo_130 ⟨rfl, rfl⟩ ⟨Nat.le_of_ble_eq_true rfl, Nat.le_of_ble_eq_true rfl⟩ w [0, 2, 5] [1, 3, 4, 6, 7] rfl rfl (by decide) (by decide) (by decide) 0 rfl rfl rfl rfl hl.1 rfl (Nat.le_of_ble_eq_true rfl) dMo_work_172 ⟨Nat.le_of_ble_eq_true rfl, Nat.le_of_ble_eq_true rfl⟩ (fun u3 H locs hu3 w => ?_)
        have w := w.eq (ws' := [(av, zI G 12 (fun j => nI (V j))), (aor, zI G 12 (fun j => nI (O2 j))), (aba, zI G 12 (fun j => nI (Bg j))), (ale, zI G 4096 (fun j => mI ((lwA (rowF Li (drF Se nf) n) Le n (2 ^ n - 1)) j))), (ach, zL G 4096 (fun j => mL ((chA V (rowF Li (drF Se nf) n) Ch n ((lwA (rowF Li (drF Se nf) n) Le n (2 ^ n - 1)) 0) (2 ^ n - 1)) j))), (m0, zO 7 [.int (nI n), .ref av, .ref ab, .ref apl, .int (nI stt), .int (nI nf), .ref ase, .ref aco, .ref aen, .int (nI mem), .int (nI 5), .int (nI 0), .ref aor, .ref aba, .int (nI 0), .ref ali, .ref ale, .ref ach, .ref ast, .ref atw, .ref ats, .int (nI tp), .int (nI th)]), (ase, zI G 16 (fun j => nI (Se j))), (ali, zI G 12 (fun j => nI ((rowF (rowF Li (drF Se nf) n) (drF Se nf) n) j)))]) rfl
        refine W.eq (g2 := F0 m 175 ls []) rfl ?_
        have w := w.eq (ws' := [(av, zI G 12 (fun j => nI (V j))), (aor, zI G 12 (fun j => nI (O2 j))), (aba, zI G 12 (fun j => nI (Bg j))), (ale, zI G 4096 (fun j => mI ((lwA (rowF Li (drF Se nf) n) Le n (2 ^ n - 1)) j))), (ach, zL G 4096 (fun j => mL ((chA V (rowF Li (drF Se nf) n) Ch n ((lwA (rowF Li (drF Se nf) n) Le n (2 ^ n - 1)) 0) (2 ^ n - 1)) j))), (m0, zO 7 [.int (nI n), .ref av, .ref ab, .ref apl, .int (nI stt), .int (nI nf), .ref ase, .ref aco, .ref aen, .int (nI mem), .int (nI 5), .int (nI 0), .ref aor, .ref aba, .int (nI 0), .ref ali, .ref ale, .ref ach, .ref ast, .ref atw, .ref ats, .int (nI tp), .int (nI th)]), (ase, zI G 16 (fun j => nI (Se j))), (ali, zI G 12 (fun j => nI ((rowF Li (drF Se nf) n) j)))]) (by rw [rowF_idem])
        refine lv_iconst (v := (nI 0)) hx hb dMo_work_175 (by decide) ?_
        refine lv_istore (lv' := [(4, .int (nI 0)), (3, .int (nI o)), (2, .ref aor), (0, .ref m0), (1, .int (nI 5))]) hx hb dMo_work_176 hl (by decide) rfl (fun ls hl => ?_)
        have L178 : ∀ (fu178 : Nat) (i2 o3 fi2 : Nat) (L2 O3 B2 : Nat → Nat), (i2 ≤ n) → ((L2, o3, O3, B2, fi2) = wkF 1 V (fun i => (ob5 V (rowF Li (drF Se nf) n) (chA V (rowF Li (drF Se nf) n) Ch n ((lwA (rowF Li (drF Se nf) n) Le n (2 ^ n - 1)) 0) (2 ^ n - 1)) Od n ((lwA (rowF Li (drF Se nf) n) Le n (2 ^ n - 1)) 0) n).2 i + 1) n (rowF Li (drF Se nf) n, 0, (ob5 V (rowF Li (drF Se nf) n) (chA V (rowF Li (drF Se nf) n) Ch n ((lwA (rowF Li (drF Se nf) n) Le n (2 ^ n - 1)) 0) (2 ^ n - 1)) Od n ((lwA (rowF Li (drF Se nf) n) Le n (2 ^ n - 1)) 0) n).2, Bg, 0) i2) → (∀ j, L2 j < 4096) → (O3 = (ob5 V (rowF Li (drF Se nf) n) (chA V (rowF Li (drF Se nf) n) Ch n ((lwA (rowF Li (drF Se nf) n) Le n (2 ^ n - 1)) 0) (2 ^ n - 1)) Od n ((lwA (rowF Li (drF Se nf) n) Le n (2 ^ n - 1)) 0) n).2) → (n - i2) < fu178 → ∀ (H : Heap) (locs : List Loc), zw G A s [(m0, zO 7 [.int (nI n), .ref av, .ref ab, .ref apl, .int (nI stt), .int (nI nf), .ref ase, .ref aco, .ref aen, .int (nI mem), .int (nI 5), .int (nI 0), .ref aor, .ref aba, .int (nI fi2), .ref ali, .ref ale, .ref ach, .ref ast, .ref atw, .ref ats, .int (nI tp), .int (nI th)]), (av, zI G 12 (fun j => nI (V j))), (ase, zI G 16 (fun j => nI (Se j))), (aor, zI G 12 (fun j => nI (O3 j))), (aba, zI G 12 (fun j => nI (B2 j))), (ali, zI G 12 (fun j => nI (L2 j))), (ale, zI G 4096 (fun j => mI ((lwA (rowF Li (drF Se nf) n) Le n (2 ^ n - 1)) j))), (ach, zL G 4096 (fun j => mL ((chA V (rowF Li (drF Se nf) n) Ch n ((lwA (rowF Li (drF Se nf) n) Le n (2 ^ n - 1)) 0) (2 ^ n - 1)) j)))] H locs → ∀ (ls : Array Slot), lv_has ls 6 [(4, .int (nI i2)), (3, .int (nI o)), (2, .ref aor), (0, .ref m0), (1, .int (nI 5))] → W p l e rm_Mo_work5 s m args below meth c H locs 0 0 Q (F0 m 178 ls []) := by
          intro fu178
          induction fu178 with
          | zero =>
            intro i2 o3 fi2 L2 O3 B2 hi2 hs2 hL2 hO3 hm178
            exact absurd hm178 (Nat.not_lt_zero _)
          | succ fu178 ih178 =>
            intro i2 o3 fi2 L2 O3 B2 hi2 hs2 hL2 hO3 hm178 H locs w ls hl
            refine lv_iload hx hb dMo_work_178 (lv_at hl 0 rfl) ?_
            refine lv_aload_n hx hb dMo_work_180 rfl (lv_at hl 3 rfl) ?_
            refine gf_Mo_68 Sf w.1 0 rfl rfl dMo_work_181 ?_
            refine z_icmpge (tgt := 203) hx hb (by omega) (by omega) dMo_work_184 (by decide) (fun c184 => ?_) (fun c184 => ?_)
            · skip
              exact hret _ _ _ _ () _ w (by obtain rfl : i2 = n := (by omega); rw [← hs2, hO3]) (fun j hj => by rw [← hO2n]; exact hOn j hj) dMo_work_203 rfl
            · skip
              refine lv_aload_n hx hb dMo_work_187 rfl (lv_at hl 3 rfl) ?_
              refine lv_aload_n hx hb dMo_work_188 rfl (lv_at hl 2 rfl) ?_
              refine lv_iload hx hb dMo_work_189 (lv_at hl 0 rfl) ?_
              refine z_iald hx hb w.1 3 (k := i2) rfl (by omega) (by omega) dMo_work_191 ?_
              refine lv_iload hx hb dMo_work_192 (lv_at hl 0 rfl) ?_
              refine z_wV (wr := [(av, zI G 12 (fun j => nI (V j))), (ase, zI G 16 (fun j => nI (Se j))), (ale, zI G 4096 (fun j => mI ((lwA (rowF Li (drF Se nf) n) Le n (2 ^ n - 1)) j))), (ach, zL G 4096 (fun j => mL ((chA V (rowF Li (drF Se nf) n) Ch n ((lwA (rowF Li (drF Se nf) n) Le n (2 ^ n - 1)) 0) (2 ^ n - 1)) j)))]) (As := [.int (nI (O3 i2)), .int (nI i2)]) (rest := []) Sf (c_Mo_takeOut l G m0 av ab apl ase aco aen aor aba ali ale ach ast atw ats n stt nf mem 5 0 fi2 tp th O3 B2 L2 (O3 i2) i2 (by first | assumption | omega) (by rw [hO3, ← hO2n]; exact hOn i2 (by omega)) (by omega) hL2 H.size) mv_Mo_139 ⟨rfl, rfl⟩ ⟨Nat.le_of_ble_eq_true rfl, Nat.le_of_ble_eq_true rfl⟩ w [0, 3, 4, 5] [1, 2, 6, 7] rfl rfl (by decide) (by decide) (by decide) 0 rfl rfl rfl rfl hl.1 rfl (Nat.le_of_ble_eq_true rfl) dMo_work_194 ⟨Nat.le_of_ble_eq_true rfl, Nat.le_of_ble_eq_true rfl⟩ (fun u4 H locs hu4 w => ?_)
              have w := w.eq (ws' := [(av, zI G 12 (fun j => nI (V j))), (ase, zI G 16 (fun j => nI (Se j))), (ale, zI G 4096 (fun j => mI ((lwA (rowF Li (drF Se nf) n) Le n (2 ^ n - 1)) j))), (ach, zL G 4096 (fun j => mL ((chA V (rowF Li (drF Se nf) n) Ch n ((lwA (rowF Li (drF Se nf) n) Le n (2 ^ n - 1)) 0) (2 ^ n - 1)) j))), (m0, zO 7 [.int (nI n), .ref av, .ref ab, .ref apl, .int (nI stt), .int (nI nf), .ref ase, .ref aco, .ref aen, .int (nI mem), .int (nI 5), .int (nI 0), .ref aor, .ref aba, .int (nI (fi2 + filF L2 (O3 i2) n)), .ref ali, .ref ale, .ref ach, .ref ast, .ref atw, .ref ats, .int (nI tp), .int (nI th)]), (aor, zI G 12 (fun j => nI ((va_up O3 i2 (O3 i2)) j))), (aba, zI G 12 (fun j => nI ((va_up B2 i2 (L2 (O3 i2) ||| 2 ^ (O3 i2))) j))), (ali, zI G 12 (fun j => nI ((toF L2 n (O3 i2)) j)))]) rfl
              refine W.eq (g2 := F0 m 197 ls []) rfl ?_
              refine z_iinc (d := 1) (lv' := [(4, .int (nI (i2 + 1))), (3, .int (nI o)), (2, .ref aor), (0, .ref m0), (1, .int (nI 5))]) hx hb dMo_work_197 hl (k := 0) rfl (by decide) (by decide) rfl (fun ls hl => ?_)
              refine lv_goto (tgt := 178) hx hb dMo_work_200 (by decide) ?_
              refine ih178 (i2 + 1) (o3 ||| 2 ^ (O3 i2)) (fi2 + filF L2 (O3 i2) n) (toF L2 n (O3 i2)) (va_up O3 i2 (O3 i2)) (va_up B2 i2 (L2 (O3 i2) ||| 2 ^ (O3 i2))) ?_ ?_ ?_ ?_ ?_ _ _ (w.perm [4, 0, 1, 5, 6, 7, 2, 3] (by decide) rfl) ls (lv_sub hl [0, 1, 2, 3, 4] rfl)
              · omega
              · simp only [wkF, ← hs2]; unfold wkN wkC; rw [if_pos rfl, hO3]; rfl
              · exact toF_lt hL2
              · rw [va_up_same]; exact hO3
              · omega
        refine L178 ((n - 0) + 1) 0 0 0 (rowF Li (drF Se nf) n) O2 Bg ?_ ?_ ?_ ?_ ?_ _ _ (w.perm [5, 0, 6, 1, 2, 7, 3, 4] (by decide) rfl) ls (lv_sub hl [0, 1, 2, 3, 4] rfl)
        · omega
        · rw [hO2n]; rfl
        · exact hD
        · exact hO2n
        · exact Nat.lt_succ_self _
      · skip
        refine lv_iload hx hb dMo_work_47 (lv_at hl 0 rfl) ?_
        refine lv_istore (lv' := [(5, .int (nI i)), (4, .int (nI i)), (3, .int (nI o)), (2, .ref aor), (0, .ref m0), (1, .int (nI 5))]) hx hb dMo_work_49 hl (by decide) rfl (fun ls hl => ?_)
        refine lv_iload_n hx hb dMo_work_51 rfl (lv_at hl 5 rfl) ?_
        refine lv_iconst (v := (nI 1)) hx hb dMo_work_52 (by decide) ?_
        refine z_icmpne (tgt := 68) hx hb (by decide) (by decide) dMo_work_53 (by decide) (fun _ => ?_) (fun q => absurd q (by decide))
        refine lv_iload_n hx hb dMo_work_68 rfl (lv_at hl 5 rfl) ?_
        refine lv_iconst (v := (nI 1)) hx hb dMo_work_69 (by decide) ?_
        refine z_icmple (tgt := 89) hx hb (by decide) (by decide) dMo_work_70 (by decide) (fun q => absurd q (by decide)) (fun _ => ?_)
        refine lv_iload_n hx hb dMo_work_73 rfl (lv_at hl 5 rfl) ?_
        refine lv_iconst (v := (nI 5)) hx hb dMo_work_74 (by decide) ?_
        refine z_icmpge (tgt := 89) hx hb (by decide) (by decide) dMo_work_75 (by decide) (fun _ => ?_) (fun q => absurd q (by decide))
        refine lv_iload_n hx hb dMo_work_89 rfl (lv_at hl 5 rfl) ?_
        refine lv_iconst (v := (nI 5)) hx hb dMo_work_90 (by decide) ?_
        refine z_icmpne (tgt := 134) hx hb (by decide) (by decide) dMo_work_91 (by decide) (fun q => absurd q (by decide)) (fun _ => ?_)
        have holt : o < 2 ^ n - 1 := by
          rcases Nat.lt_or_ge o (2 ^ n - 1) with q | q
          · exact q
          · have e : o = 2 ^ n - 1 := by omega
            rw [e, pop_all n (Nat.le_refl n)] at hpo
            omega
        have hcb : ∀ z, z < 2 ^ n → (chA V (rowF Li (drF Se nf) n) Ch n ((lwA (rowF Li (drF Se nf) n) Le n (2 ^ n - 1)) 0) (2 ^ n - 1)) z ≤ 137438953472 := fun z hz => by
          refine Nat.le_trans (chA_b hV hn _ (Nat.le_refl _) z (by omega) (by omega)) ?_
          omega
        have hl5 : (lwA (rowF Li (drF Se nf) n) Le n (2 ^ n - 1)) 0 ≤ 101 := lwA_le hLe _ 0
        refine lv_iconst (v := (nI 0)) hx hb dMo_work_94 (by decide) ?_
        refine lv_istore (lv' := [(5, .int (nI 0)), (4, .int (nI i)), (3, .int (nI o)), (2, .ref aor), (0, .ref m0), (1, .int (nI 5))]) hx hb dMo_work_95 hl (by decide) rfl (fun ls hl => ?_)
        refine lv_aload_n hx hb dMo_work_97 rfl (lv_at hl 4 rfl) ?_
        refine z_wV (wr := [(av, zI G 12 (fun j => nI (V j))), (aor, zI G 12 (fun j => nI (O2 j))), (aba, zI G 12 (fun j => nI (Bg j))), (ale, zI G 4096 (fun j => mI ((lwA (rowF Li (drF Se nf) n) Le n (2 ^ n - 1)) j))), (ach, zL G 4096 (fun j => mL ((chA V (rowF Li (drF Se nf) n) Ch n ((lwA (rowF Li (drF Se nf) n) Le n (2 ^ n - 1)) 0) (2 ^ n - 1)) j)))]) (As := []) (rest := []) Sf (c_Mo_draw l G m0 av ab apl ase aco aen aor aba ali ale ach ast atw ats n stt nf mem 5 0 0 tp th Se (rowF Li (drF Se nf) n) (by first | assumption | omega) (by first | assumption | omega) (by first | assumption | omega) H.size) mv_Mo_130 ⟨rfl, rfl⟩ ⟨Nat.le_of_ble_eq_true rfl, Nat.le_of_ble_eq_true rfl⟩ w [0, 2, 5] [1, 3, 4, 6, 7] rfl rfl (by decide) (by decide) (by decide) 0 rfl rfl rfl rfl hl.1 rfl (Nat.le_of_ble_eq_true rfl) dMo_work_98 ⟨Nat.le_of_ble_eq_true rfl, Nat.le_of_ble_eq_true rfl⟩ (fun u5 H locs hu5 w => ?_)
        have w := w.eq (ws' := [(av, zI G 12 (fun j => nI (V j))), (aor, zI G 12 (fun j => nI (O2 j))), (aba, zI G 12 (fun j => nI (Bg j))), (ale, zI G 4096 (fun j => mI ((lwA (rowF Li (drF Se nf) n) Le n (2 ^ n - 1)) j))), (ach, zL G 4096 (fun j => mL ((chA V (rowF Li (drF Se nf) n) Ch n ((lwA (rowF Li (drF Se nf) n) Le n (2 ^ n - 1)) 0) (2 ^ n - 1)) j))), (m0, zO 7 [.int (nI n), .ref av, .ref ab, .ref apl, .int (nI stt), .int (nI nf), .ref ase, .ref aco, .ref aen, .int (nI mem), .int (nI 5), .int (nI 0), .ref aor, .ref aba, .int (nI 0), .ref ali, .ref ale, .ref ach, .ref ast, .ref atw, .ref ats, .int (nI tp), .int (nI th)]), (ase, zI G 16 (fun j => nI (Se j))), (ali, zI G 12 (fun j => nI ((rowF (rowF Li (drF Se nf) n) (drF Se nf) n) j)))]) rfl
        refine W.eq (g2 := F0 m 101 ls []) rfl ?_
        have w := w.eq (ws' := [(av, zI G 12 (fun j => nI (V j))), (aor, zI G 12 (fun j => nI (O2 j))), (aba, zI G 12 (fun j => nI (Bg j))), (ale, zI G 4096 (fun j => mI ((lwA (rowF Li (drF Se nf) n) Le n (2 ^ n - 1)) j))), (ach, zL G 4096 (fun j => mL ((chA V (rowF Li (drF Se nf) n) Ch n ((lwA (rowF Li (drF Se nf) n) Le n (2 ^ n - 1)) 0) (2 ^ n - 1)) j))), (m0, zO 7 [.int (nI n), .ref av, .ref ab, .ref apl, .int (nI stt), .int (nI nf), .ref ase, .ref aco, .ref aen, .int (nI mem), .int (nI 5), .int (nI 0), .ref aor, .ref aba, .int (nI 0), .ref ali, .ref ale, .ref ach, .ref ast, .ref atw, .ref ats, .int (nI tp), .int (nI th)]), (ase, zI G 16 (fun j => nI (Se j))), (ali, zI G 12 (fun j => nI ((rowF Li (drF Se nf) n) j)))]) (by rw [rowF_idem])
        have L101 : ∀ (fu101 : Nat) (a : Nat), (∃ b, a ≤ b ∧ b < n ∧ cd5 V (rowF Li (drF Se nf) n) (chA V (rowF Li (drF Se nf) n) Ch n ((lwA (rowF Li (drF Se nf) n) Le n (2 ^ n - 1)) 0) (2 ^ n - 1)) n ((lwA (rowF Li (drF Se nf) n) Le n (2 ^ n - 1)) 0) o b = true) → (fn5 (cd5 V (rowF Li (drF Se nf) n) (chA V (rowF Li (drF Se nf) n) Ch n ((lwA (rowF Li (drF Se nf) n) Le n (2 ^ n - 1)) 0) (2 ^ n - 1)) n ((lwA (rowF Li (drF Se nf) n) Le n (2 ^ n - 1)) 0) o) (n - a) a = fn5 (cd5 V (rowF Li (drF Se nf) n) (chA V (rowF Li (drF Se nf) n) Ch n ((lwA (rowF Li (drF Se nf) n) Le n (2 ^ n - 1)) 0) (2 ^ n - 1)) n ((lwA (rowF Li (drF Se nf) n) Le n (2 ^ n - 1)) 0) o) n 0) → (n - a) < fu101 → ∀ (H : Heap) (locs : List Loc), zw G A s [(av, zI G 12 (fun j => nI (V j))), (aor, zI G 12 (fun j => nI (O2 j))), (aba, zI G 12 (fun j => nI (Bg j))), (ale, zI G 4096 (fun j => mI ((lwA (rowF Li (drF Se nf) n) Le n (2 ^ n - 1)) j))), (ach, zL G 4096 (fun j => mL ((chA V (rowF Li (drF Se nf) n) Ch n ((lwA (rowF Li (drF Se nf) n) Le n (2 ^ n - 1)) 0) (2 ^ n - 1)) j))), (m0, zO 7 [.int (nI n), .ref av, .ref ab, .ref apl, .int (nI stt), .int (nI nf), .ref ase, .ref aco, .ref aen, .int (nI mem), .int (nI 5), .int (nI 0), .ref aor, .ref aba, .int (nI 0), .ref ali, .ref ale, .ref ach, .ref ast, .ref atw, .ref ats, .int (nI tp), .int (nI th)]), (ase, zI G 16 (fun j => nI (Se j))), (ali, zI G 12 (fun j => nI ((rowF Li (drF Se nf) n) j)))] H locs → ∀ (ls : Array Slot), lv_has ls 6 [(5, .int (nI a)), (4, .int (nI i)), (3, .int (nI o)), (2, .ref aor), (0, .ref m0), (1, .int (nI 5))] → W p l e rm_Mo_work5 s m args below meth c H locs 0 0 Q (F0 m 101 ls []) := by
          intro fu101
          induction fu101 with
          | zero =>
            intro a hex hfa0 hm101
            exact absurd hm101 (Nat.not_lt_zero _)
          | succ fu101 ih101 =>
            intro a hex hfa0 hm101 H locs w ls hl
            have han : a < n := by
              obtain ⟨b, h1, h2, -⟩ := hex
              omega
            refine lv_iload_n hx hb dMo_work_101 rfl (lv_at hl 2 rfl) ?_
            refine lv_iload hx hb dMo_work_102 (lv_at hl 0 rfl) ?_
            refine z_shrN hx hb (by omega) (by omega) dMo_work_104 ?_
            refine lv_iconst (v := (nI 1)) hx hb dMo_work_105 (by decide) ?_
            refine z_and1 hx hb dMo_work_106 ?_
            refine lv_iconst (v := (nI 1)) hx hb dMo_work_107 (by decide) ?_
            refine z_icmpeqSB (tgt := 128) hx hb dMo_work_108 (by decide) (fun c108 => ?_) (fun c108 => ?_)
            · skip
              refine z_iinc (d := 1) (lv' := [(5, .int (nI (a + 1))), (4, .int (nI i)), (3, .int (nI o)), (2, .ref aor), (0, .ref m0), (1, .int (nI 5))]) hx hb dMo_work_128 hl (k := 0) rfl (by decide) (by decide) rfl (fun ls hl => ?_)
              refine lv_goto (tgt := 101) hx hb dMo_work_131 (by decide) ?_
              refine ih101 (a + 1) ?_ ?_ ?_ _ _ w ls (lv_sub hl [0, 1, 2, 3, 4, 5] rfl)
              · first | exact ex_up hex (cd5_f1 c108) | exact ex_up hex (cd5_f2 c125)
              · rw [← hfa0, show n - a = (n - (a + 1)) + 1 by omega]; first | (rw [fn5_n (cd5_f1 c108)]; done) | (rw [fn5_n (cd5_f2 c125)])
              · omega
            · skip
              refine lv_aload_n hx hb dMo_work_111 rfl (lv_at hl 4 rfl) ?_
              refine lv_iload hx hb dMo_work_112 (lv_at hl 0 rfl) ?_
              refine lv_iload_n hx hb dMo_work_114 rfl (lv_at hl 2 rfl) ?_
              refine z_rV (As := [.int (nI a), .int (nI o)]) (rest := []) Sf (c_Mo_price l G m0 av ab apl ase aco aen aor aba ali ale ach ast atw ats n stt nf mem 5 0 0 tp th V (rowF Li (drF Se nf) n) (lwA (rowF Li (drF Se nf) n) Le n (2 ^ n - 1)) (chA V (rowF Li (drF Se nf) n) Ch n ((lwA (rowF Li (drF Se nf) n) Le n (2 ^ n - 1)) 0) (2 ^ n - 1)) a o (by first | assumption | omega) han (by first | assumption | omega) hD (by omega) hl5 (Nat.lt_of_le_of_lt (hcb _ (or_lt2 ho (pw_lt2 han))) (by decide))) mv_Mo_123 ⟨rfl, rfl⟩ ⟨Nat.le_of_ble_eq_true rfl, Nat.le_of_ble_eq_true rfl⟩ w.1 [5, 0, 7, 3, 4] rfl 5 rfl rfl rfl rfl hl.1 rfl (Nat.le_of_ble_eq_true rfl) dMo_work_115 ⟨Nat.le_of_ble_eq_true rfl, Nat.le_of_ble_eq_true rfl⟩ ?_
              refine lv_aload_n hx hb dMo_work_118 rfl (lv_at hl 4 rfl) ?_
              refine gf_Mo_40 Sf w.1 5 rfl rfl dMo_work_119 ?_
              refine lv_iload_n hx hb dMo_work_122 rfl (lv_at hl 2 rfl) ?_
              refine z_lald hx hb w.1 4 (k := o) rfl (by omega) (by omega) dMo_work_123 ?_
              refine W.lcmp hx hb dMo_work_124 ?_
              refine z_lceqMM (tgt := 134) hx hb (Nat.lt_of_le_of_lt (pcF_le (L := rowF Li (drF Se nf) n) (wd := (lwA (rowF Li (drF Se nf) n) Le n (2 ^ n - 1)) 0) hV hn (hcb _ (or_lt2 ho (pw_lt2 han)))) (by decide)) (Nat.lt_of_le_of_lt (hcb o ho) (by decide)) dMo_work_125 (by decide) (fun c125 => ?_) (fun c125 => ?_)
              · skip
                have hfa : a = fn5 (cd5 V (rowF Li (drF Se nf) n) (chA V (rowF Li (drF Se nf) n) Ch n ((lwA (rowF Li (drF Se nf) n) Le n (2 ^ n - 1)) 0) (2 ^ n - 1)) n ((lwA (rowF Li (drF Se nf) n) Le n (2 ^ n - 1)) 0) o) n 0 := by
                  rw [← hfa0, show n - a = (n - a - 1) + 1 by omega, fn5_y (cd5_t c108 c125)]
                refine lv_aload_n hx hb dMo_work_134 rfl (lv_at hl 3 rfl) ?_
                refine lv_iload hx hb dMo_work_135 (lv_at hl 1 rfl) ?_
                refine lv_iload hx hb dMo_work_137 (lv_at hl 0 rfl) ?_
                refine z_iastN hx hb w 1 (k := i) rfl (by omega) (by omega) (ws' := [(av, zI G 12 (fun j => nI (V j))), (aor, zI G 12 (fun j => nI ((va_up O2 i a) j))), (aba, zI G 12 (fun j => nI (Bg j))), (ale, zI G 4096 (fun j => mI ((lwA (rowF Li (drF Se nf) n) Le n (2 ^ n - 1)) j))), (ach, zL G 4096 (fun j => mL ((chA V (rowF Li (drF Se nf) n) Ch n ((lwA (rowF Li (drF Se nf) n) Le n (2 ^ n - 1)) 0) (2 ^ n - 1)) j))), (m0, zO 7 [.int (nI n), .ref av, .ref ab, .ref apl, .int (nI stt), .int (nI nf), .ref ase, .ref aco, .ref aen, .int (nI mem), .int (nI 5), .int (nI 0), .ref aor, .ref aba, .int (nI 0), .ref ali, .ref ale, .ref ach, .ref ast, .ref atw, .ref ats, .int (nI tp), .int (nI th)]), (ase, zI G 16 (fun j => nI (Se j))), (ali, zI G 12 (fun j => nI ((rowF Li (drF Se nf) n) j)))]) rfl dMo_work_139 (fun H locs w => ?_)
                refine lv_iload_n hx hb dMo_work_140 rfl (lv_at hl 2 rfl) ?_
                refine lv_iconst (v := (nI 1)) hx hb dMo_work_141 (by decide) ?_
                refine lv_iload hx hb dMo_work_142 (lv_at hl 0 rfl) ?_
                refine z_shl1 hx hb (by omega) dMo_work_144 ?_
                refine z_orN hx hb dMo_work_145 ?_
                refine lv_istore_n (lv' := [(3, .int (nI (o ||| (2 ^ a)))), (5, .int (nI a)), (4, .int (nI i)), (2, .ref aor), (0, .ref m0), (1, .int (nI 5))]) hx hb dMo_work_146 rfl hl (by decide) rfl (fun ls hl => ?_)
                refine lv_iload_n hx hb dMo_work_147 rfl (lv_at hl 5 rfl) ?_
                refine lv_iconst (v := (nI 5)) hx hb dMo_work_148 (by decide) ?_
                refine z_icmpge (tgt := 160) hx hb (by decide) (by decide) dMo_work_149 (by decide) (fun _ => ?_) (fun q => absurd q (by decide))
                refine z_iinc (d := 1) (lv' := [(4, .int (nI (i + 1))), (3, .int (nI (o ||| (2 ^ a)))), (5, .int (nI a)), (2, .ref aor), (0, .ref m0), (1, .int (nI 5))]) hx hb dMo_work_160 hl (k := 2) rfl (by decide) (by decide) rfl (fun ls hl => ?_)
                refine lv_goto (tgt := 38) hx hb dMo_work_163 (by decide) ?_
                refine ih38 (i + 1) (o ||| (2 ^ a)) (va_up O2 i a) ?_ ?_ ?_ ?_ ?_ ?_ _ _ (w.perm [5, 0, 6, 1, 2, 7, 3, 4] (by decide) rfl) ls (lv_sub hl [0, 1, 3, 4, 5] rfl)
                · omega
                · simp only [ob5, ← hs]; rw [← hfa]
                · exact or_lt2 ho (pw_lt2 (by omega))
                · rw [popP_or c108 n, if_pos (by omega), hpo]
                · intro j hj; unfold va_up; split; omega; exact hO j (by omega)
                · omega
              · skip
                refine z_iinc (d := 1) (lv' := [(5, .int (nI (a + 1))), (4, .int (nI i)), (3, .int (nI o)), (2, .ref aor), (0, .ref m0), (1, .int (nI 5))]) hx hb dMo_work_128 hl (k := 0) rfl (by decide) (by decide) rfl (fun ls hl => ?_)
                refine lv_goto (tgt := 101) hx hb dMo_work_131 (by decide) ?_
                refine ih101 (a + 1) ?_ ?_ ?_ _ _ w ls (lv_sub hl [0, 1, 2, 3, 4, 5] rfl)
                · first | exact ex_up hex (cd5_f1 c108) | exact ex_up hex (cd5_f2 c125)
                · rw [← hfa0, show n - a = (n - (a + 1)) + 1 by omega]; first | (rw [fn5_n (cd5_f1 c108)]; done) | (rw [fn5_n (cd5_f2 c125)])
                · omega
        refine L101 ((n - 0) + 1) 0 ?_ ?_ ?_ _ _ w ls (lv_sub hl [0, 1, 2, 3, 4, 5] rfl)
        · obtain ⟨b, h1, h2⟩ := cd5_ex (V := V) (L := rowF Li (drF Se nf) n) (Ch := Ch) (wd := (lwA (rowF Li (drF Se nf) n) Le n (2 ^ n - 1)) 0) holt (pop_free n (by omega))
          exact ⟨b, Nat.zero_le b, h1, h2⟩
        · rfl
        · exact Nat.lt_succ_self _
  refine L38 ((n - 0) + 1) 0 0 Od ?_ ?_ ?_ ?_ ?_ ?_ _ _ (w.perm [3, 4, 2, 0, 1, 5, 6, 7] (by decide) rfl) ls (lv_sub hl [0, 1, 2, 3, 4] rfl)
  · omega
  · rfl
  · omega
  · exact pop_zero n
  · intro j hj; exact absurd hj (Nat.not_lt_zero _)
  · exact Nat.lt_succ_self _
