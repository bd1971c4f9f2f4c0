def rm_Mo_name : Room := { frames := 1, cells := 0, slots := 0, locals := 40 }
set_option maxHeartbeats 4000000 in
set_option maxRecDepth 100000 in
theorem c_Mo_name (l : Launch) (G : zG) (m0 av ab apl ase aco aen aor aba ali ale ach ast atw ats : Nat) (n stt nf mem kd sl fi tp th : Nat) (V Bd : Nat → Nat) (x : Int32) (hn : n ≤ 12) (hst : stt ≤ 65536) (sz : Nat) : Met l yMo_name (.code yMo_name cMo_name 2 (some .int) :: zT) rm_Mo_name (zPw G [.ref m0, .int x] [(m0, zO 7 [.int (nI n), .ref av, .ref ab, .ref apl, .int (nI stt), .int (nI nf), .ref ase, .ref aco, .ref aen, .int (nI mem), .int (nI kd), .int (nI sl), .ref aor, .ref aba, .int (nI fi), .ref ali, .ref ale, .ref ach, .ref ast, .ref atw, .ref ats, .int (nI tp), .int (nI th)]), (av, zI G 12 (fun j => nI (V j))), (ab, zI G 12 (fun j => mI (Bd j)))] sz) (zQ (S := Unit) G (fun u => some (.int (nmA n stt x))) (fun u => [(m0, zO 7 [.int (nI (zif (nmOk n stt x) (n + 1) (n))), .ref av, .ref ab, .ref apl, .int (nI (zif (nmOk n stt x) (stt * tn x) (stt))), .int (nI nf), .ref ase, .ref aco, .ref aen, .int (nI mem), .int (nI kd), .int (nI (zif (nmOk n stt x) (1) (sl))), .ref aor, .ref aba, .int (nI fi), .ref ali, .ref ale, .ref ach, .ref ast, .ref atw, .ref ats, .int (nI tp), .int (nI 0)]), (av, zI G 12 (fun j => nI ((zif (nmOk n stt x) (va_up V n (tn x)) (V)) j))), (ab, zI G 12 (fun j => mI ((zif (nmOk n stt x) (va_up Bd n 0) (Bd)) j)))]) (va_A [(m0, zO 7 [.int (nI n), .ref av, .ref ab, .ref apl, .int (nI stt), .int (nI nf), .ref ase, .ref aco, .ref aen, .int (nI mem), .int (nI kd), .int (nI sl), .ref aor, .ref aba, .int (nI fi), .ref ali, .ref ale, .ref ach, .ref ast, .ref atw, .ref ats, .int (nI tp), .int (nI th)]), (av, zI G 12 (fun j => nI (V j))), (ab, zI G 12 (fun j => mI (Bd j)))] sz) (fun u => True)) 0 0 (va_A [(m0, zO 7 [.int (nI n), .ref av, .ref ab, .ref apl, .int (nI stt), .int (nI nf), .ref ase, .ref aco, .ref aen, .int (nI mem), .int (nI kd), .int (nI sl), .ref aor, .ref aba, .int (nI fi), .ref ali, .ref ale, .ref ach, .ref ast, .ref atw, .ref ats, .int (nI tp), .int (nI th)]), (av, zI G 12 (fun j => nI (V j))), (ab, zI G 12 (fun j => mI (Bd j)))] sz) := by
  refine z_metWi (by decide) (Nat.le_of_ble_eq_true rfl) (fun p e s m args below meth c ls A Q Sf hnm w hl hret => ?_)
  obtain ⟨H, hH⟩ : ∃ H, H = s.heap := ⟨_, rfl⟩
  obtain ⟨locs, hlo⟩ : ∃ L : List Loc, L = [] := ⟨_, rfl⟩
  rw [← hH, ← hlo] at w
  rw [← hH, ← hlo]
  clear hH hlo
  have Sf : CallFix p m c cMo_name 2 s args zT RMo := Sf
  have hx := Sf.1
  have hb := Sf.2.1
  have hown := Sf.2.2.2.1
  have hts := Sf.2.2.2.2
  have hl : lv_has ls 2 [(0, .ref m0), (1, .int x)] := hl
  refine lv_aload_n hx hb dMo_name_0 rfl (lv_at hl 0 rfl) ?_
  refine lv_iconst (v := (nI 0)) hx hb dMo_name_1 (by decide) ?_
  refine pf_Mo_65 Sf w 0 rfl rfl rfl (Nat.le_of_ble_eq_true rfl) (ws' := [(m0, zO 7 [.int (nI n), .ref av, .ref ab, .ref apl, .int (nI stt), .int (nI nf), .ref ase, .ref aco, .ref aen, .int (nI mem), .int (nI kd), .int (nI sl), .ref aor, .ref aba, .int (nI fi), .ref ali, .ref ale, .ref ach, .ref ast, .ref atw, .ref ats, .int (nI tp), .int (nI 0)]), (av, zI G 12 (fun j => nI (V j))), (ab, zI G 12 (fun j => mI (Bd j)))]) rfl dMo_name_2 (fun H locs w => ?_)
  refine lv_iload_n hx hb dMo_name_5 rfl (lv_at hl 1 rfl) ?_
  refine lv_i2l hx hb dMo_name_6 rfl ?_
  refine lv_ldc2 (v := (lN 2)) hx hb hown (hts _ kc_Mo_75) dMo_name_7 ?_
  refine lv_ldc2 (v := (lN 4)) hx hb hown (hts _ kc_Mo_77) dMo_name_10 ?_
  refine z_rS (As := [.long x.toInt64, .long (lN 2), .long (lN 4)]) (rest := []) Sf (c_Mo_in l G x.toInt64 (lN 2) (lN 4) ) mv_Mo_71 ⟨rfl, rfl⟩ ⟨Nat.le_of_ble_eq_true rfl, Nat.le_of_ble_eq_true rfl⟩ w.1 [] rfl rfl hl.1 rfl (Nat.le_of_ble_eq_true rfl) dMo_name_13 ⟨Nat.le_of_ble_eq_true rfl, Nat.le_of_ble_eq_true rfl⟩ ?_
  refine z_ifneB (tgt := 22) hx hb dMo_name_16 (by decide) (fun c16 => ?_) (fun c16 => ?_)
  · skip
    obtain ⟨k, hk2, hk4, rfl⟩ := in_nat (by decide) (by decide) c16
    have htn : tn (nI k) = k := tn_nI (by omega)
    have hsk : stt * k ≤ 65536 * 4 := Nat.mul_le_mul hst hk4
    refine lv_aload_n hx hb dMo_name_22 rfl (lv_at hl 0 rfl) ?_
    refine gf_Mo_68 Sf w.1 0 rfl rfl dMo_name_23 ?_
    refine lv_bipush (v := nI 12) hx hb dMo_name_26 (by decide) ?_
    refine z_icmpeq (tgt := 42) hx hb (by omega) (by omega) dMo_name_28 (by decide) (fun c28 => ?_) (fun c28 => ?_)
    · skip
      have hP : ¬ nmOk n stt (nI k) := fun h => by
        have h1 := h.2.1
        have h2 := h.2.2
        rw [htn] at h2
        omega
      refine lv_bipush (v := (-4)) hx hb dMo_name_42 (by decide) ?_
      exact hret _ _ _ _ () _ _ w (by simp only [zif_f hP]) (trivial) dMo_name_44 (by unfold nmA; rw [zif_t c16, zif_f hP])
    · skip
      refine lv_aload_n hx hb dMo_name_31 rfl (lv_at hl 0 rfl) ?_
      refine gf_Mo_58 Sf w.1 0 rfl rfl dMo_name_32 ?_
      refine lv_iload_n hx hb dMo_name_35 rfl (lv_at hl 1 rfl) ?_
      refine z_mulN hx hb dMo_name_36 ?_
      refine lv_ldc (v := nI 65536) hx hb hown (hts _ kc_Mo_53) dMo_name_37 ?_
      refine z_icmple (tgt := 45) hx hb (by omega) (by omega) dMo_name_39 (by decide) (fun c39 => ?_) (fun c39 => ?_)
      · skip
        have hP : nmOk n stt (nI k) := ⟨c16, by omega, by rw [htn]; omega⟩
        refine lv_aload_n hx hb dMo_name_45 rfl (lv_at hl 0 rfl) ?_
        refine gf_Mo_7 Sf w.1 0 rfl rfl dMo_name_46 ?_
        refine lv_aload_n hx hb dMo_name_49 rfl (lv_at hl 0 rfl) ?_
        refine gf_Mo_68 Sf w.1 0 rfl rfl dMo_name_50 ?_
        refine lv_iload_n hx hb dMo_name_53 rfl (lv_at hl 1 rfl) ?_
        refine z_iastN hx hb w 1 (k := n) rfl (by omega) (by omega) (ws' := [(m0, zO 7 [.int (nI n), .ref av, .ref ab, .ref apl, .int (nI stt), .int (nI nf), .ref ase, .ref aco, .ref aen, .int (nI mem), .int (nI kd), .int (nI sl), .ref aor, .ref aba, .int (nI fi), .ref ali, .ref ale, .ref ach, .ref ast, .ref atw, .ref ats, .int (nI tp), .int (nI 0)]), (av, zI G 12 (fun j => nI ((va_up V n k) j))), (ab, zI G 12 (fun j => mI (Bd j)))]) rfl dMo_name_54 (fun H locs w => ?_)
        refine lv_aload_n hx hb dMo_name_55 rfl (lv_at hl 0 rfl) ?_
        refine gf_Mo_13 Sf w.1 0 rfl rfl dMo_name_56 ?_
        refine lv_aload_n hx hb dMo_name_59 rfl (lv_at hl 0 rfl) ?_
        refine gf_Mo_68 Sf w.1 0 rfl rfl dMo_name_60 ?_
        refine lv_iconst (v := (mI 0)) hx hb dMo_name_63 (by decide) ?_
        refine z_iastM hx hb w 2 (k := n) rfl (by omega) (by omega) (ws' := [(m0, zO 7 [.int (nI n), .ref av, .ref ab, .ref apl, .int (nI stt), .int (nI nf), .ref ase, .ref aco, .ref aen, .int (nI mem), .int (nI kd), .int (nI sl), .ref aor, .ref aba, .int (nI fi), .ref ali, .ref ale, .ref ach, .ref ast, .ref atw, .ref ats, .int (nI tp), .int (nI 0)]), (av, zI G 12 (fun j => nI ((va_up V n k) j))), (ab, zI G 12 (fun j => mI ((va_up Bd n 0) j)))]) rfl dMo_name_64 (fun H locs w => ?_)
        refine lv_aload_n hx hb dMo_name_65 rfl (lv_at hl 0 rfl) ?_
        refine lv_aload_n hx hb dMo_name_66 rfl (lv_at hl 0 rfl) ?_
        refine gf_Mo_58 Sf w.1 0 rfl rfl dMo_name_67 ?_
        refine lv_iload_n hx hb dMo_name_70 rfl (lv_at hl 1 rfl) ?_
        refine z_mulN hx hb dMo_name_71 ?_
        refine pf_Mo_58 Sf w 0 rfl rfl rfl (Nat.le_of_ble_eq_true rfl) (ws' := [(m0, zO 7 [.int (nI n), .ref av, .ref ab, .ref apl, .int (nI (stt * k)), .int (nI nf), .ref ase, .ref aco, .ref aen, .int (nI mem), .int (nI kd), .int (nI sl), .ref aor, .ref aba, .int (nI fi), .ref ali, .ref ale, .ref ach, .ref ast, .ref atw, .ref ats, .int (nI tp), .int (nI 0)]), (av, zI G 12 (fun j => nI ((va_up V n k) j))), (ab, zI G 12 (fun j => mI ((va_up Bd n 0) j)))]) rfl dMo_name_72 (fun H locs w => ?_)
        refine lv_aload_n hx hb dMo_name_75 rfl (lv_at hl 0 rfl) ?_
        refine lv_dup hx hb dMo_name_76 rfl ?_
        refine gf_Mo_68 Sf w.1 0 rfl rfl dMo_name_77 ?_
        refine lv_iconst (v := (nI 1)) hx hb dMo_name_80 (by decide) ?_
        refine z_addN hx hb dMo_name_81 ?_
        refine pf_Mo_68 Sf w 0 rfl rfl rfl (Nat.le_of_ble_eq_true rfl) (ws' := [(m0, zO 7 [.int (nI (n + 1)), .ref av, .ref ab, .ref apl, .int (nI (stt * k)), .int (nI nf), .ref ase, .ref aco, .ref aen, .int (nI mem), .int (nI kd), .int (nI sl), .ref aor, .ref aba, .int (nI fi), .ref ali, .ref ale, .ref ach, .ref ast, .ref atw, .ref ats, .int (nI tp), .int (nI 0)]), (av, zI G 12 (fun j => nI ((va_up V n k) j))), (ab, zI G 12 (fun j => mI ((va_up Bd n 0) j)))]) rfl dMo_name_82 (fun H locs w => ?_)
        refine lv_aload_n hx hb dMo_name_85 rfl (lv_at hl 0 rfl) ?_
        refine lv_iconst (v := (nI 1)) hx hb dMo_name_86 (by decide) ?_
        refine pf_Mo_61 Sf w 0 rfl rfl rfl (Nat.le_of_ble_eq_true rfl) (ws' := [(m0, zO 7 [.int (nI (n + 1)), .ref av, .ref ab, .ref apl, .int (nI (stt * k)), .int (nI nf), .ref ase, .ref aco, .ref aen, .int (nI mem), .int (nI kd), .int (nI 1), .ref aor, .ref aba, .int (nI fi), .ref ali, .ref ale, .ref ach, .ref ast, .ref atw, .ref ats, .int (nI tp), .int (nI 0)]), (av, zI G 12 (fun j => nI ((va_up V n k) j))), (ab, zI G 12 (fun j => mI ((va_up Bd n 0) j)))]) rfl dMo_name_87 (fun H locs w => ?_)
        refine lv_aload_n hx hb dMo_name_90 rfl (lv_at hl 0 rfl) ?_
        refine gf_Mo_68 Sf w.1 0 rfl rfl dMo_name_91 ?_
        refine lv_iconst (v := (nI 1)) hx hb dMo_name_94 (by decide) ?_
        refine z_subN hx hb (by omega) dMo_name_95 ?_
        exact hret _ _ _ _ () _ _ w (by simp only [zif_t hP, htn]) (trivial) dMo_name_96 (by unfold nmA; rw [zif_t c16, zif_t hP, Nat.add_sub_cancel])
      · skip
        have hP : ¬ nmOk n stt (nI k) := fun h => by
          have h1 := h.2.1
          have h2 := h.2.2
          rw [htn] at h2
          omega
        refine lv_bipush (v := (-4)) hx hb dMo_name_42 (by decide) ?_
        exact hret _ _ _ _ () _ _ w (by simp only [zif_f hP]) (trivial) dMo_name_44 (by unfold nmA; rw [zif_t c16, zif_f hP])
  · skip
    have hP : ¬ nmOk n stt x := fun h => c16 h.1
    refine lv_bipush (v := (-2)) hx hb dMo_name_19 (by decide) ?_
    exact hret _ _ _ _ () _ _ w (by simp only [zif_f hP]) (trivial) dMo_name_21 (by unfold nmA; rw [zif_f c16])

def rm_Mo_factor : Room := { frames := 1, cells := 0, slots := 0, locals := 40 }
set_option maxHeartbeats 4000000 in
set_option maxRecDepth 100000 in
theorem c_Mo_factor (l : Launch) (G : zG) (m0 av ab apl ase aco aen aor aba ali ale ach ast atw ats : Nat) (n stt nf mem kd sl fi tp th : Nat) (Se Co En : Nat → Nat) (x : Int32) (hn : n ≤ 12) (hnf : nf ≤ 16) (hCo : sumF Co nf ≤ 16) (sz : Nat) : Met l yMo_factor (.code yMo_factor cMo_factor 3 (some .int) :: zT) rm_Mo_factor (zPw G [.ref m0, .int x] [(m0, zO 7 [.int (nI n), .ref av, .ref ab, .ref apl, .int (nI stt), .int (nI nf), .ref ase, .ref aco, .ref aen, .int (nI mem), .int (nI kd), .int (nI sl), .ref aor, .ref aba, .int (nI fi), .ref ali, .ref ale, .ref ach, .ref ast, .ref atw, .ref ats, .int (nI tp), .int (nI th)]), (ase, zI G 16 (fun j => nI (Se j))), (aco, zI G 16 (fun j => nI (Co j))), (aen, zI G 4096 (fun j => nI (En j)))] sz) (zQ (S := Unit) G (fun u => some (.int (faA n nf Co x))) (fun u => [(m0, zO 7 [.int (nI n), .ref av, .ref ab, .ref apl, .int (nI stt), .int (nI (zif (faOk n nf Co x) (nf + 1) (nf))), .ref ase, .ref aco, .ref aen, .int (nI mem), .int (nI kd), .int (nI (zif (faOk n nf Co x) (1) (sl))), .ref aor, .ref aba, .int (nI fi), .ref ali, .ref ale, .ref ach, .ref ast, .ref atw, .ref ats, .int (nI tp), .int (nI 0)]), (ase, zI G 16 (fun j => nI ((zif (faOk n nf Co x) (va_up Se nf (tn x)) (Se)) j))), (aco, zI G 16 (fun j => nI ((zif (faOk n nf Co x) (va_up Co nf 1) (Co)) j))), (aen, zI G 4096 (fun j => nI ((zif (faOk n nf Co x) (onF En (256 * nf) 256) (En)) j)))]) (va_A [(m0, zO 7 [.int (nI n), .ref av, .ref ab, .ref apl, .int (nI stt), .int (nI nf), .ref ase, .ref aco, .ref aen, .int (nI mem), .int (nI kd), .int (nI sl), .ref aor, .ref aba, .int (nI fi), .ref ali, .ref ale, .ref ach, .ref ast, .ref atw, .ref ats, .int (nI tp), .int (nI th)]), (ase, zI G 16 (fun j => nI (Se j))), (aco, zI G 16 (fun j => nI (Co j))), (aen, zI G 4096 (fun j => nI (En j)))] sz) (fun u => True)) 0 0 (va_A [(m0, zO 7 [.int (nI n), .ref av, .ref ab, .ref apl, .int (nI stt), .int (nI nf), .ref ase, .ref aco, .ref aen, .int (nI mem), .int (nI kd), .int (nI sl), .ref aor, .ref aba, .int (nI fi), .ref ali, .ref ale, .ref ach, .ref ast, .ref atw, .ref ats, .int (nI tp), .int (nI th)]), (ase, zI G 16 (fun j => nI (Se j))), (aco, zI G 16 (fun j => nI (Co j))), (aen, zI G 4096 (fun j => nI (En j)))] sz) := by
  refine z_metWi (by decide) (Nat.le_of_ble_eq_true rfl) (fun p e s m args below meth c ls A Q Sf hnm w hl hret => ?_)
  obtain ⟨H, hH⟩ : ∃ H, H = s.heap := ⟨_, rfl⟩
  obtain ⟨locs, hlo⟩ : ∃ L : List Loc, L = [] := ⟨_, rfl⟩
  rw [← hH, ← hlo] at w
  rw [← hH, ← hlo]
  clear hH hlo
  have Sf : CallFix p m c cMo_factor 3 s args zT RMo := Sf
  have hx := Sf.1
  have hb := Sf.2.1
  have hown := Sf.2.2.2.1
  have hts := Sf.2.2.2.2
  have hl : lv_has ls 3 [(0, .ref m0), (1, .int x)] := hl
  refine lv_aload_n hx hb dMo_factor_0 rfl (lv_at hl 0 rfl) ?_
  refine lv_iconst (v := (nI 0)) hx hb dMo_factor_1 (by decide) ?_
  refine pf_Mo_65 Sf w 0 rfl rfl rfl (Nat.le_of_ble_eq_true rfl) (ws' := [(m0, zO 7 [.int (nI n), .ref av, .ref ab, .ref apl, .int (nI stt), .int (nI nf), .ref ase, .ref aco, .ref aen, .int (nI mem), .int (nI kd), .int (nI sl), .ref aor, .ref aba, .int (nI fi), .ref ali, .ref ale, .ref ach, .ref ast, .ref atw, .ref ats, .int (nI tp), .int (nI 0)]), (ase, zI G 16 (fun j => nI (Se j))), (aco, zI G 16 (fun j => nI (Co j))), (aen, zI G 4096 (fun j => nI (En j)))]) rfl dMo_factor_2 (fun H locs w => ?_)
  refine lv_aload_n hx hb dMo_factor_5 rfl (lv_at hl 0 rfl) ?_
  refine lv_iload_n hx hb dMo_factor_6 rfl (lv_at hl 1 rfl) ?_
  refine z_rV (As := [.int x]) (rest := []) Sf (c_Mo_isSet l G m0 av ab apl ase aco aen aor aba ali ale ach ast atw ats n stt nf mem kd sl fi tp 0 x (by first | assumption | omega)) mv_Mo_82 ⟨rfl, rfl⟩ ⟨Nat.le_of_ble_eq_true rfl, Nat.le_of_ble_eq_true rfl⟩ w.1 [0] rfl 0 rfl rfl rfl rfl hl.1 rfl (Nat.le_of_ble_eq_true rfl) dMo_factor_7 ⟨Nat.le_of_ble_eq_true rfl, Nat.le_of_ble_eq_true rfl⟩ ?_
  refine z_ifneB (tgt := 15) hx hb dMo_factor_10 (by decide) (fun c10 => ?_) (fun c10 => ?_)
  · skip
    obtain ⟨S, hS, rfl⟩ := st_nat hn c10
    have h4 : 2 ^ n ≤ 4096 := Nat.pow_le_pow_right (by decide) hn
    have htn : tn (nI S) = S := tn_nI (by omega)
    have hpS := popc_le S (by omega)
    refine lv_iload_n hx hb dMo_factor_15 rfl (lv_at hl 1 rfl) ?_
    refine z_rS (As := [.int (nI S)]) (rest := []) Sf (c_Mo_many l G S (by omega)) mv_Mo_86 ⟨rfl, rfl⟩ ⟨Nat.le_of_ble_eq_true rfl, Nat.le_of_ble_eq_true rfl⟩ w.1 [] rfl rfl hl.1 rfl (Nat.le_of_ble_eq_true rfl) dMo_factor_16 ⟨Nat.le_of_ble_eq_true rfl, Nat.le_of_ble_eq_true rfl⟩ ?_
    refine lv_iconst (v := (nI 4)) hx hb dMo_factor_19 (by decide) ?_
    refine z_icmple (tgt := 26) hx hb (by omega) (by omega) dMo_factor_20 (by decide) (fun c20 => ?_) (fun c20 => ?_)
    · skip
      refine lv_aload_n hx hb dMo_factor_26 rfl (lv_at hl 0 rfl) ?_
      refine gf_Mo_79 Sf w.1 0 rfl rfl dMo_factor_27 ?_
      refine lv_bipush (v := nI 16) hx hb dMo_factor_30 (by decide) ?_
      refine z_icmpeq (tgt := 44) hx hb (by omega) (by omega) dMo_factor_32 (by decide) (fun c32 => ?_) (fun c32 => ?_)
      · skip
        have hP : ¬ faOk n nf Co (nI S) := fun h => by
          have h1 := h.2.2.1
          have h2 := h.2.2.2
          omega
        refine lv_bipush (v := (-4)) hx hb dMo_factor_44 (by decide) ?_
        exact hret _ _ _ _ () _ _ w (by simp only [zif_f hP]) (trivial) dMo_factor_46 (by unfold faA; rw [zif_t c10, zif_t (by rw [htn]; omega), zif_f hP])
      · skip
        refine lv_aload_n hx hb dMo_factor_35 rfl (lv_at hl 0 rfl) ?_
        refine z_rV (As := []) (rest := []) Sf (c_Mo_allCopies l G m0 av ab apl ase aco aen aor aba ali ale ach ast atw ats n stt nf mem kd sl fi tp 0 Co (by first | assumption | omega)) mv_Mo_90 ⟨rfl, rfl⟩ ⟨Nat.le_of_ble_eq_true rfl, Nat.le_of_ble_eq_true rfl⟩ w.1 [0, 2] rfl 0 rfl rfl rfl rfl hl.1 rfl (Nat.le_of_ble_eq_true rfl) dMo_factor_36 ⟨Nat.le_of_ble_eq_true rfl, Nat.le_of_ble_eq_true rfl⟩ ?_
        refine lv_bipush (v := nI 16) hx hb dMo_factor_39 (by decide) ?_
        refine z_icmpne (tgt := 47) hx hb (by omega) (by omega) dMo_factor_41 (by decide) (fun c41 => ?_) (fun c41 => ?_)
        · skip
          have hP : faOk n nf Co (nI S) := ⟨c10, by rw [htn]; omega, by omega, by omega⟩
          refine lv_aload_n hx hb dMo_factor_47 rfl (lv_at hl 0 rfl) ?_
          refine gf_Mo_19 Sf w.1 0 rfl rfl dMo_factor_48 ?_
          refine lv_aload_n hx hb dMo_factor_51 rfl (lv_at hl 0 rfl) ?_
          refine gf_Mo_79 Sf w.1 0 rfl rfl dMo_factor_52 ?_
          refine lv_iload_n hx hb dMo_factor_55 rfl (lv_at hl 1 rfl) ?_
          refine z_iastN hx hb w 1 (k := nf) rfl (by omega) (by omega) (ws' := [(m0, zO 7 [.int (nI n), .ref av, .ref ab, .ref apl, .int (nI stt), .int (nI nf), .ref ase, .ref aco, .ref aen, .int (nI mem), .int (nI kd), .int (nI sl), .ref aor, .ref aba, .int (nI fi), .ref ali, .ref ale, .ref ach, .ref ast, .ref atw, .ref ats, .int (nI tp), .int (nI 0)]), (ase, zI G 16 (fun j => nI ((va_up Se nf S) j))), (aco, zI G 16 (fun j => nI (Co j))), (aen, zI G 4096 (fun j => nI (En j)))]) rfl dMo_factor_56 (fun H locs w => ?_)
          refine lv_aload_n hx hb dMo_factor_57 rfl (lv_at hl 0 rfl) ?_
          refine gf_Mo_22 Sf w.1 0 rfl rfl dMo_factor_58 ?_
          refine lv_aload_n hx hb dMo_factor_61 rfl (lv_at hl 0 rfl) ?_
          refine gf_Mo_79 Sf w.1 0 rfl rfl dMo_factor_62 ?_
          refine lv_iconst (v := (nI 1)) hx hb dMo_factor_65 (by decide) ?_
          refine z_iastN hx hb w 2 (k := nf) rfl (by omega) (by omega) (ws' := [(m0, zO 7 [.int (nI n), .ref av, .ref ab, .ref apl, .int (nI stt), .int (nI nf), .ref ase, .ref aco, .ref aen, .int (nI mem), .int (nI kd), .int (nI sl), .ref aor, .ref aba, .int (nI fi), .ref ali, .ref ale, .ref ach, .ref ast, .ref atw, .ref ats, .int (nI tp), .int (nI 0)]), (ase, zI G 16 (fun j => nI ((va_up Se nf S) j))), (aco, zI G 16 (fun j => nI ((va_up Co nf 1) j))), (aen, zI G 4096 (fun j => nI (En j)))]) rfl dMo_factor_66 (fun H locs w => ?_)
          refine lv_iconst (v := (nI 0)) hx hb dMo_factor_67 (by decide) ?_
          refine lv_istore_n (lv' := [(2, .int (nI 0)), (0, .ref m0), (1, .int (nI S))]) hx hb dMo_factor_68 rfl hl (by decide) rfl (fun ls hl => ?_)
          have L69 : ∀ (fu69 : Nat) (k : Nat) (F : Nat → Nat), (k ≤ 256) → (F = onF En (256 * nf) k) → (256 - k) < fu69 → ∀ (H : Heap) (locs : List Loc), zw G A s [(m0, zO 7 [.int (nI n), .ref av, .ref ab, .ref apl, .int (nI stt), .int (nI nf), .ref ase, .ref aco, .ref aen, .int (nI mem), .int (nI kd), .int (nI sl), .ref aor, .ref aba, .int (nI fi), .ref ali, .ref ale, .ref ach, .ref ast, .ref atw, .ref ats, .int (nI tp), .int (nI 0)]), (ase, zI G 16 (fun j => nI ((va_up Se nf S) j))), (aco, zI G 16 (fun j => nI ((va_up Co nf 1) j))), (aen, zI G 4096 (fun j => nI (F j)))] H locs → ∀ (ls : Array Slot), lv_has ls 3 [(2, .int (nI k)), (0, .ref m0), (1, .int (nI S))] → W p l e rm_Mo_factor s m args below meth c H locs 0 0 Q (F0 m 69 ls []) := by
            intro fu69
            induction fu69 with
            | zero =>
              intro k F hk hF hm69
              exact absurd hm69 (Nat.not_lt_zero _)
            | succ fu69 ih69 =>
              intro k F hk hF hm69 H locs w ls hl
              refine lv_iload_n hx hb dMo_factor_69 rfl (lv_at hl 0 rfl) ?_
              refine lv_sipush (v := nI 256) hx hb dMo_factor_70 (by decide) ?_
              refine z_icmpge (tgt := 98) hx hb (by omega) (by omega) dMo_factor_73 (by decide) (fun c73 => ?_) (fun c73 => ?_)
              · skip
                refine lv_aload_n hx hb dMo_factor_98 rfl (lv_at hl 1 rfl) ?_
                refine lv_dup hx hb dMo_factor_99 rfl ?_
                refine gf_Mo_79 Sf w.1 0 rfl rfl dMo_factor_100 ?_
                refine lv_iconst (v := (nI 1)) hx hb dMo_factor_103 (by decide) ?_
                refine z_addN hx hb dMo_factor_104 ?_
                refine pf_Mo_79 Sf w 0 rfl rfl rfl (Nat.le_of_ble_eq_true rfl) (ws' := [(m0, zO 7 [.int (nI n), .ref av, .ref ab, .ref apl, .int (nI stt), .int (nI (nf + 1)), .ref ase, .ref aco, .ref aen, .int (nI mem), .int (nI kd), .int (nI sl), .ref aor, .ref aba, .int (nI fi), .ref ali, .ref ale, .ref ach, .ref ast, .ref atw, .ref ats, .int (nI tp), .int (nI 0)]), (ase, zI G 16 (fun j => nI ((va_up Se nf S) j))), (aco, zI G 16 (fun j => nI ((va_up Co nf 1) j))), (aen, zI G 4096 (fun j => nI (F j)))]) rfl dMo_factor_105 (fun H locs w => ?_)
                refine lv_aload_n hx hb dMo_factor_108 rfl (lv_at hl 1 rfl) ?_
                refine lv_iconst (v := (nI 1)) hx hb dMo_factor_109 (by decide) ?_
                refine pf_Mo_61 Sf w 0 rfl rfl rfl (Nat.le_of_ble_eq_true rfl) (ws' := [(m0, zO 7 [.int (nI n), .ref av, .ref ab, .ref apl, .int (nI stt), .int (nI (nf + 1)), .ref ase, .ref aco, .ref aen, .int (nI mem), .int (nI kd), .int (nI 1), .ref aor, .ref aba, .int (nI fi), .ref ali, .ref ale, .ref ach, .ref ast, .ref atw, .ref ats, .int (nI tp), .int (nI 0)]), (ase, zI G 16 (fun j => nI ((va_up Se nf S) j))), (aco, zI G 16 (fun j => nI ((va_up Co nf 1) j))), (aen, zI G 4096 (fun j => nI (F j)))]) rfl dMo_factor_110 (fun H locs w => ?_)
                refine lv_aload_n hx hb dMo_factor_113 rfl (lv_at hl 1 rfl) ?_
                refine gf_Mo_79 Sf w.1 0 rfl rfl dMo_factor_114 ?_
                refine lv_iconst (v := (nI 1)) hx hb dMo_factor_117 (by decide) ?_
                refine z_subN hx hb (by omega) dMo_factor_118 ?_
                exact hret _ _ _ _ () _ _ w (by simp only [zif_t hP, htn]; rw [hF, show k = 256 by omega]) (trivial) dMo_factor_119 (by unfold faA; rw [zif_t c10, zif_t (by rw [htn]; omega), zif_t hP, Nat.add_sub_cancel])
              · skip
                refine lv_aload_n hx hb dMo_factor_76 rfl (lv_at hl 1 rfl) ?_
                refine gf_Mo_25 Sf w.1 0 rfl rfl dMo_factor_77 ?_
                refine lv_sipush (v := nI 256) hx hb dMo_factor_80 (by decide) ?_
                refine lv_aload_n hx hb dMo_factor_83 rfl (lv_at hl 1 rfl) ?_
                refine gf_Mo_79 Sf w.1 0 rfl rfl dMo_factor_84 ?_
                refine z_mulN hx hb dMo_factor_87 ?_
                refine lv_iload_n hx hb dMo_factor_88 rfl (lv_at hl 0 rfl) ?_
                refine z_addN hx hb dMo_factor_89 ?_
                refine lv_iconst (v := (nI 1)) hx hb dMo_factor_90 (by decide) ?_
                refine z_iastN hx hb w 3 (k := ((256 * nf) + k)) rfl (by omega) (by omega) (ws' := [(m0, zO 7 [.int (nI n), .ref av, .ref ab, .ref apl, .int (nI stt), .int (nI nf), .ref ase, .ref aco, .ref aen, .int (nI mem), .int (nI kd), .int (nI sl), .ref aor, .ref aba, .int (nI fi), .ref ali, .ref ale, .ref ach, .ref ast, .ref atw, .ref ats, .int (nI tp), .int (nI 0)]), (ase, zI G 16 (fun j => nI ((va_up Se nf S) j))), (aco, zI G 16 (fun j => nI ((va_up Co nf 1) j))), (aen, zI G 4096 (fun j => nI ((va_up F ((256 * nf) + k) 1) j)))]) rfl dMo_factor_91 (fun H locs w => ?_)
                refine z_iinc (d := 1) (lv' := [(2, .int (nI (k + 1))), (0, .ref m0), (1, .int (nI S))]) hx hb dMo_factor_92 hl (k := 0) rfl (by decide) (by decide) rfl (fun ls hl => ?_)
                refine lv_goto (tgt := 69) hx hb dMo_factor_95 (by decide) ?_
                refine ih69 (k + 1) (va_up F ((256 * nf) + k) 1) ?_ ?_ ?_ _ _ w ls (lv_sub hl [0, 1, 2] rfl)
                · omega
                · rw [hF]; exact onF_s _ _ _
                · omega
          refine L69 ((256 - 0) + 1) 0 En ?_ ?_ ?_ _ _ w ls (lv_sub hl [0, 1, 2] rfl)
          · omega
          · exact (onF_0 _ _).symm
          · exact Nat.lt_succ_self _
        · skip
          have hP : ¬ faOk n nf Co (nI S) := fun h => by
            have h1 := h.2.2.1
            have h2 := h.2.2.2
            omega
          refine lv_bipush (v := (-4)) hx hb dMo_factor_44 (by decide) ?_
          exact hret _ _ _ _ () _ _ w (by simp only [zif_f hP]) (trivial) dMo_factor_46 (by unfold faA; rw [zif_t c10, zif_t (by rw [htn]; omega), zif_f hP])
    · skip
      have hP : ¬ faOk n nf Co (nI S) := fun h => by
        have h1 := h.2.1
        rw [htn] at h1
        omega
      refine lv_bipush (v := (-2)) hx hb dMo_factor_23 (by decide) ?_
      exact hret _ _ _ _ () _ _ w (by simp only [zif_f hP]) (trivial) dMo_factor_25 (by unfold faA; rw [zif_t c10, zif_f (by rw [htn]; omega)])
  · skip
    have hP : ¬ faOk n nf Co x := fun h => c10 h.1
    refine lv_iconst (v := (mI 0)) hx hb dMo_factor_13 (by decide) ?_
    exact hret _ _ _ _ () _ _ w (by simp only [zif_f hP]) (trivial) dMo_factor_14 (by unfold faA; rw [zif_f c10, mI_0])

def rm_Mo_put : Room := { frames := 2, cells := 0, slots := 0, locals := 61 }
set_option maxHeartbeats 4000000 in
set_option maxRecDepth 100000 in
theorem c_Mo_put (l : Launch) (G : zG) (m0 av ab apl ase aco aen aor aba ali ale ach ast atw ats : Nat) (n stt nf mem kd sl fi tp th : Nat) (V Se En : Nat → Nat) (f y v : Int32) (hn : n ≤ 12) (hnf : nf ≤ 16) (hV : ∀ j, V j ≤ 4) (hSe : ∀ i, Se i < 4096) (hC4 : ∀ f, f < nf → cellsF V (Se f) n ≤ 256) (sz : Nat) : Met l yMo_put (.code yMo_put cMo_put 5 (some .int) :: zT) rm_Mo_put (zPw G [.ref m0, .int f, .int y, .int v] [(m0, zO 7 [.int (nI n), .ref av, .ref ab, .ref apl, .int (nI stt), .int (nI nf), .ref ase, .ref aco, .ref aen, .int (nI mem), .int (nI kd), .int (nI sl), .ref aor, .ref aba, .int (nI fi), .ref ali, .ref ale, .ref ach, .ref ast, .ref atw, .ref ats, .int (nI tp), .int (nI th)]), (av, zI G 12 (fun j => nI (V j))), (ase, zI G 16 (fun j => nI (Se j))), (aen, zI G 4096 (fun j => nI (En j)))] sz) (zQ (S := Unit) G (fun u => some (.int (puA n nf V Se En f y v))) (fun u => [(m0, zO 7 [.int (nI n), .ref av, .ref ab, .ref apl, .int (nI stt), .int (nI nf), .ref ase, .ref aco, .ref aen, .int (nI mem), .int (nI kd), .int (nI sl), .ref aor, .ref aba, .int (nI fi), .ref ali, .ref ale, .ref ach, .ref ast, .ref atw, .ref ats, .int (nI tp), .int (nI 0)]), (av, zI G 12 (fun j => nI (V j))), (ase, zI G 16 (fun j => nI (Se j))), (aen, zI G 4096 (fun j => nI ((zif (puOk n nf V Se f y v) (va_up En (256 * tn f + tn y) (tn v)) (En)) j)))]) (va_A [(m0, zO 7 [.int (nI n), .ref av, .ref ab, .ref apl, .int (nI stt), .int (nI nf), .ref ase, .ref aco, .ref aen, .int (nI mem), .int (nI kd), .int (nI sl), .ref aor, .ref aba, .int (nI fi), .ref ali, .ref ale, .ref ach, .ref ast, .ref atw, .ref ats, .int (nI tp), .int (nI th)]), (av, zI G 12 (fun j => nI (V j))), (ase, zI G 16 (fun j => nI (Se j))), (aen, zI G 4096 (fun j => nI (En j)))] sz) (fun u => True)) 0 0 (va_A [(m0, zO 7 [.int (nI n), .ref av, .ref ab, .ref apl, .int (nI stt), .int (nI nf), .ref ase, .ref aco, .ref aen, .int (nI mem), .int (nI kd), .int (nI sl), .ref aor, .ref aba, .int (nI fi), .ref ali, .ref ale, .ref ach, .ref ast, .ref atw, .ref ats, .int (nI tp), .int (nI th)]), (av, zI G 12 (fun j => nI (V j))), (ase, zI G 16 (fun j => nI (Se j))), (aen, zI G 4096 (fun j => nI (En j)))] sz) := by
  refine z_metWi (by decide) (Nat.le_of_ble_eq_true rfl) (fun p e s m args below meth c ls A Q Sf hnm w hl hret => ?_)
  obtain ⟨H, hH⟩ : ∃ H, H = s.heap := ⟨_, rfl⟩
  obtain ⟨locs, hlo⟩ : ∃ L : List Loc, L = [] := ⟨_, rfl⟩
  rw [← hH, ← hlo] at w
  rw [← hH, ← hlo]
  clear hH hlo
  have Sf : CallFix p m c cMo_put 5 s args zT RMo := Sf
  have hx := Sf.1
  have hb := Sf.2.1
  have hown := Sf.2.2.2.1
  have hts := Sf.2.2.2.2
  have hl : lv_has ls 5 [(0, .ref m0), (1, .int f), (2, .int y), (3, .int v)] := hl
  refine lv_aload_n hx hb dMo_put_0 rfl (lv_at hl 0 rfl) ?_
  refine lv_iconst (v := (nI 0)) hx hb dMo_put_1 (by decide) ?_
  refine pf_Mo_65 Sf w 0 rfl rfl rfl (Nat.le_of_ble_eq_true rfl) (ws' := [(m0, zO 7 [.int (nI n), .ref av, .ref ab, .ref apl, .int (nI stt), .int (nI nf), .ref ase, .ref aco, .ref aen, .int (nI mem), .int (nI kd), .int (nI sl), .ref aor, .ref aba, .int (nI fi), .ref ali, .ref ale, .ref ach, .ref ast, .ref atw, .ref ats, .int (nI tp), .int (nI 0)]), (av, zI G 12 (fun j => nI (V j))), (ase, zI G 16 (fun j => nI (Se j))), (aen, zI G 4096 (fun j => nI (En j)))]) rfl dMo_put_2 (fun H locs w => ?_)
  refine lv_aload_n hx hb dMo_put_5 rfl (lv_at hl 0 rfl) ?_
  refine lv_iload_n hx hb dMo_put_6 rfl (lv_at hl 1 rfl) ?_
  refine z_rV (As := [.int f]) (rest := []) Sf (c_Mo_isFactor l G m0 av ab apl ase aco aen aor aba ali ale ach ast atw ats n stt nf mem kd sl fi tp 0 f (by first | assumption | omega)) mv_Mo_94 ⟨rfl, rfl⟩ ⟨Nat.le_of_ble_eq_true rfl, Nat.le_of_ble_eq_true rfl⟩ w.1 [0] rfl 0 rfl rfl rfl rfl hl.1 rfl (Nat.le_of_ble_eq_true rfl) dMo_put_7 ⟨Nat.le_of_ble_eq_true rfl, Nat.le_of_ble_eq_true rfl⟩ ?_
  refine z_ifneB (tgt := 15) hx hb dMo_put_10 (by decide) (fun c10 => ?_) (fun c10 => ?_)
  · skip
    obtain ⟨k, hk, rfl⟩ := kn_nat (by omega) c10
    have htn : tn (nI k) = k := tn_nI (by omega)
    have hcb := hC4 k hk
    refine lv_iload_n hx hb dMo_put_15 rfl (lv_at hl 2 rfl) ?_
    refine lv_i2l hx hb dMo_put_16 rfl ?_
    refine lv_lconst (v := lN 0) hx hb dMo_put_17 (by decide) ?_
    refine lv_aload_n hx hb dMo_put_18 rfl (lv_at hl 0 rfl) ?_
    refine lv_aload_n hx hb dMo_put_19 rfl (lv_at hl 0 rfl) ?_
    refine gf_Mo_19 Sf w.1 0 rfl rfl dMo_put_20 ?_
    refine lv_iload_n hx hb dMo_put_23 rfl (lv_at hl 1 rfl) ?_
    refine z_iald hx hb w.1 2 (k := k) rfl (by omega) (by omega) dMo_put_24 ?_
    refine z_rV (As := [.int (nI (Se k))]) (rest := [.long (lN 0), .long y.toInt64]) Sf (c_Mo_cells l G m0 av ab apl ase aco aen aor aba ali ale ach ast atw ats n stt nf mem kd sl fi tp 0 V (Se k) (by first | assumption | omega) (hSe k)) mv_Mo_97 ⟨rfl, rfl⟩ ⟨Nat.le_of_ble_eq_true rfl, Nat.le_of_ble_eq_true rfl⟩ w.1 [0, 1] rfl 0 rfl rfl rfl rfl hl.1 rfl (Nat.le_of_ble_eq_true rfl) dMo_put_25 ⟨Nat.le_of_ble_eq_true rfl, Nat.le_of_ble_eq_true rfl⟩ ?_
    refine lv_iconst (v := (nI 1)) hx hb dMo_put_28 (by decide) ?_
    refine z_subM hx hb dMo_put_29 ?_
    refine lv_i2l hx hb dMo_put_30 rfl ?_
    refine z_rS (As := [.long y.toInt64, .long (lN 0), .long ((mI (cellsF V (Se k) n)).toInt64)]) (rest := []) Sf (c_Mo_in l G y.toInt64 (lN 0) ((mI (cellsF V (Se k) n)).toInt64) ) mv_Mo_71 ⟨rfl, rfl⟩ ⟨Nat.le_of_ble_eq_true rfl, Nat.le_of_ble_eq_true rfl⟩ w.1 [] rfl rfl hl.1 rfl (Nat.le_of_ble_eq_true rfl) dMo_put_31 ⟨Nat.le_of_ble_eq_true rfl, Nat.le_of_ble_eq_true rfl⟩ ?_
    refine z_ifeqB (tgt := 49) hx hb dMo_put_34 (by decide) (fun c34 => ?_) (fun c34 => ?_)
    · skip
      have hP : ¬ puOk n nf V Se (nI k) y v := fun h => c34 ((in_kn (by omega)).mpr (by have h2 := h.2.1; rw [htn] at h2; exact h2))
      refine lv_bipush (v := (-2)) hx hb dMo_put_49 (by decide) ?_
      exact hret _ _ _ _ () _ _ w (by simp only [zif_f hP]) (trivial) dMo_put_51 (by unfold puA; rw [zif_t c10, zif_f hP])
    · skip
      have c34b := (in_kn (by omega)).mp c34
      obtain ⟨q, hq, rfl⟩ := kn_nat (by omega) c34b
      have htq : tn (nI q) = q := tn_nI (by omega)
      refine lv_iload_n hx hb dMo_put_37 rfl (lv_at hl 3 rfl) ?_
      refine lv_i2l hx hb dMo_put_38 rfl ?_
      refine lv_lconst (v := lN 0) hx hb dMo_put_39 (by decide) ?_
      refine lv_ldc2 (v := (lN 7)) hx hb hown (hts _ kc_Mo_100) dMo_put_40 ?_
      refine z_rS (As := [.long v.toInt64, .long (lN 0), .long (lN 7)]) (rest := []) Sf (c_Mo_in l G v.toInt64 (lN 0) (lN 7) ) mv_Mo_71 ⟨rfl, rfl⟩ ⟨Nat.le_of_ble_eq_true rfl, Nat.le_of_ble_eq_true rfl⟩ w.1 [] rfl rfl hl.1 rfl (Nat.le_of_ble_eq_true rfl) dMo_put_43 ⟨Nat.le_of_ble_eq_true rfl, Nat.le_of_ble_eq_true rfl⟩ ?_
      refine z_ifneB (tgt := 52) hx hb dMo_put_46 (by decide) (fun c46 => ?_) (fun c46 => ?_)
      · skip
        obtain ⟨r2, -, hr2, rfl⟩ := in_nat (by decide) (by decide) c46
        have htr : tn (nI r2) = r2 := tn_nI (by omega)
        have hP : puOk n nf V Se (nI k) (nI q) (nI r2) := ⟨c10, by rw [htn]; exact c34b, c46⟩
        refine lv_aload_n hx hb dMo_put_52 rfl (lv_at hl 0 rfl) ?_
        refine gf_Mo_25 Sf w.1 0 rfl rfl dMo_put_53 ?_
        refine lv_sipush (v := nI 256) hx hb dMo_put_56 (by decide) ?_
        refine lv_iload_n hx hb dMo_put_59 rfl (lv_at hl 1 rfl) ?_
        refine z_mulN hx hb dMo_put_60 ?_
        refine lv_iload_n hx hb dMo_put_61 rfl (lv_at hl 2 rfl) ?_
        refine z_addN hx hb dMo_put_62 ?_
        refine z_iald hx hb w.1 3 (k := ((256 * k) + q)) rfl (by omega) (by omega) dMo_put_63 ?_
        refine lv_istore (lv' := [(4, .int (nI (En ((256 * k) + q)))), (0, .ref m0), (1, .int (nI k)), (2, .int (nI q)), (3, .int (nI r2))]) hx hb dMo_put_64 hl (by decide) rfl (fun ls hl => ?_)
        refine lv_aload_n hx hb dMo_put_66 rfl (lv_at hl 1 rfl) ?_
        refine gf_Mo_25 Sf w.1 0 rfl rfl dMo_put_67 ?_
        refine lv_sipush (v := nI 256) hx hb dMo_put_70 (by decide) ?_
        refine lv_iload_n hx hb dMo_put_73 rfl (lv_at hl 2 rfl) ?_
        refine z_mulN hx hb dMo_put_74 ?_
        refine lv_iload_n hx hb dMo_put_75 rfl (lv_at hl 3 rfl) ?_
        refine z_addN hx hb dMo_put_76 ?_
        refine lv_iload_n hx hb dMo_put_77 rfl (lv_at hl 4 rfl) ?_
        refine z_iastN hx hb w 3 (k := ((256 * k) + q)) rfl (by omega) (by omega) (ws' := [(m0, zO 7 [.int (nI n), .ref av, .ref ab, .ref apl, .int (nI stt), .int (nI nf), .ref ase, .ref aco, .ref aen, .int (nI mem), .int (nI kd), .int (nI sl), .ref aor, .ref aba, .int (nI fi), .ref ali, .ref ale, .ref ach, .ref ast, .ref atw, .ref ats, .int (nI tp), .int (nI 0)]), (av, zI G 12 (fun j => nI (V j))), (ase, zI G 16 (fun j => nI (Se j))), (aen, zI G 4096 (fun j => nI ((va_up En ((256 * k) + q) r2) j)))]) rfl dMo_put_78 (fun H locs w => ?_)
        refine lv_iload hx hb dMo_put_79 (lv_at hl 0 rfl) ?_
        exact hret _ _ _ _ () _ _ w (by simp only [zif_t hP, htn, htq, htr]) (trivial) dMo_put_81 (by unfold puA; rw [zif_t c10, zif_t hP, htn, htq])
      · skip
        have hP : ¬ puOk n nf V Se (nI k) (nI q) v := fun h => c46 h.2.2
        refine lv_bipush (v := (-2)) hx hb dMo_put_49 (by decide) ?_
        exact hret _ _ _ _ () _ _ w (by simp only [zif_f hP]) (trivial) dMo_put_51 (by unfold puA; rw [zif_t c10, zif_f hP])
  · skip
    have hP : ¬ puOk n nf V Se f y v := fun h => c10 h.1
    refine lv_iconst (v := (mI 0)) hx hb dMo_put_13 (by decide) ?_
    exact hret _ _ _ _ () _ _ w (by simp only [zif_f hP]) (trivial) dMo_put_14 (by unfold puA; rw [zif_f c10, mI_0])

def rm_Mo_copies : Room := { frames := 2, cells := 0, slots := 0, locals := 61 }
set_option maxHeartbeats 4000000 in
set_option maxRecDepth 100000 in
theorem c_Mo_copies (l : Launch) (G : zG) (m0 av ab apl ase aco aen aor aba ali ale ach ast atw ats : Nat) (n stt nf mem kd sl fi tp th : Nat) (Co : Nat → Nat) (f y : Int32) (hnf : nf ≤ 16) (hCo : sumF Co nf ≤ 16) (sz : Nat) : Met l yMo_copies (.code yMo_copies cMo_copies 4 (some .int) :: zT) rm_Mo_copies (zPw G [.ref m0, .int f, .int y] [(m0, zO 7 [.int (nI n), .ref av, .ref ab, .ref apl, .int (nI stt), .int (nI nf), .ref ase, .ref aco, .ref aen, .int (nI mem), .int (nI kd), .int (nI sl), .ref aor, .ref aba, .int (nI fi), .ref ali, .ref ale, .ref ach, .ref ast, .ref atw, .ref ats, .int (nI tp), .int (nI th)]), (aco, zI G 16 (fun j => nI (Co j)))] sz) (zQ (S := Unit) G (fun u => some (.int (coA nf Co f y))) (fun u => [(m0, zO 7 [.int (nI n), .ref av, .ref ab, .ref apl, .int (nI stt), .int (nI nf), .ref ase, .ref aco, .ref aen, .int (nI mem), .int (nI kd), .int (nI sl), .ref aor, .ref aba, .int (nI fi), .ref ali, .ref ale, .ref ach, .ref ast, .ref atw, .ref ats, .int (nI tp), .int (nI 0)]), (aco, zI G 16 (fun j => nI ((zif (coOk nf Co f y) (va_up Co (tn f) (tn y)) (Co)) j)))]) (va_A [(m0, zO 7 [.int (nI n), .ref av, .ref ab, .ref apl, .int (nI stt), .int (nI nf), .ref ase, .ref aco, .ref aen, .int (nI mem), .int (nI kd), .int (nI sl), .ref aor, .ref aba, .int (nI fi), .ref ali, .ref ale, .ref ach, .ref ast, .ref atw, .ref ats, .int (nI tp), .int (nI th)]), (aco, zI G 16 (fun j => nI (Co j)))] sz) (fun u => True)) 0 0 (va_A [(m0, zO 7 [.int (nI n), .ref av, .ref ab, .ref apl, .int (nI stt), .int (nI nf), .ref ase, .ref aco, .ref aen, .int (nI mem), .int (nI kd), .int (nI sl), .ref aor, .ref aba, .int (nI fi), .ref ali, .ref ale, .ref ach, .ref ast, .ref atw, .ref ats, .int (nI tp), .int (nI th)]), (aco, zI G 16 (fun j => nI (Co j)))] sz) := by
  refine z_metWi (by decide) (Nat.le_of_ble_eq_true rfl) (fun p e s m args below meth c ls A Q Sf hnm w hl hret => ?_)
  obtain ⟨H, hH⟩ : ∃ H, H = s.heap := ⟨_, rfl⟩
  obtain ⟨locs, hlo⟩ : ∃ L : List Loc, L = [] := ⟨_, rfl⟩
  rw [← hH, ← hlo] at w
  rw [← hH, ← hlo]
  clear hH hlo
  have Sf : CallFix p m c cMo_copies 4 s args zT RMo := Sf
  have hx := Sf.1
  have hb := Sf.2.1
  have hown := Sf.2.2.2.1
  have hts := Sf.2.2.2.2
  have hl : lv_has ls 4 [(0, .ref m0), (1, .int f), (2, .int y)] := hl
  refine lv_aload_n hx hb dMo_copies_0 rfl (lv_at hl 0 rfl) ?_
  refine lv_iconst (v := (nI 0)) hx hb dMo_copies_1 (by decide) ?_
  refine pf_Mo_65 Sf w 0 rfl rfl rfl (Nat.le_of_ble_eq_true rfl) (ws' := [(m0, zO 7 [.int (nI n), .ref av, .ref ab, .ref apl, .int (nI stt), .int (nI nf), .ref ase, .ref aco, .ref aen, .int (nI mem), .int (nI kd), .int (nI sl), .ref aor, .ref aba, .int (nI fi), .ref ali, .ref ale, .ref ach, .ref ast, .ref atw, .ref ats, .int (nI tp), .int (nI 0)]), (aco, zI G 16 (fun j => nI (Co j)))]) rfl dMo_copies_2 (fun H locs w => ?_)
  refine lv_aload_n hx hb dMo_copies_5 rfl (lv_at hl 0 rfl) ?_
  refine lv_iload_n hx hb dMo_copies_6 rfl (lv_at hl 1 rfl) ?_
  refine z_rV (As := [.int f]) (rest := []) Sf (c_Mo_isFactor l G m0 av ab apl ase aco aen aor aba ali ale ach ast atw ats n stt nf mem kd sl fi tp 0 f (by first | assumption | omega)) mv_Mo_94 ⟨rfl, rfl⟩ ⟨Nat.le_of_ble_eq_true rfl, Nat.le_of_ble_eq_true rfl⟩ w.1 [0] rfl 0 rfl rfl rfl rfl hl.1 rfl (Nat.le_of_ble_eq_true rfl) dMo_copies_7 ⟨Nat.le_of_ble_eq_true rfl, Nat.le_of_ble_eq_true rfl⟩ ?_
  refine z_ifneB (tgt := 15) hx hb dMo_copies_10 (by decide) (fun c10 => ?_) (fun c10 => ?_)
  · skip
    obtain ⟨k, hk, rfl⟩ := kn_nat (by omega) c10
    have htn : tn (nI k) = k := tn_nI (by omega)
    have hsk := sumF_in (Co := Co) hk
    refine lv_iload_n hx hb dMo_copies_15 rfl (lv_at hl 2 rfl) ?_
    refine lv_i2l hx hb dMo_copies_16 rfl ?_
    refine lv_lconst (v := lN 1) hx hb dMo_copies_17 (by decide) ?_
    refine lv_ldc2 (v := (lN 3)) hx hb hown (hts _ kc_Mo_102) dMo_copies_18 ?_
    refine z_rS (As := [.long y.toInt64, .long (lN 1), .long (lN 3)]) (rest := []) Sf (c_Mo_in l G y.toInt64 (lN 1) (lN 3) ) mv_Mo_71 ⟨rfl, rfl⟩ ⟨Nat.le_of_ble_eq_true rfl, Nat.le_of_ble_eq_true rfl⟩ w.1 [] rfl rfl hl.1 rfl (Nat.le_of_ble_eq_true rfl) dMo_copies_21 ⟨Nat.le_of_ble_eq_true rfl, Nat.le_of_ble_eq_true rfl⟩ ?_
    refine z_ifneB (tgt := 30) hx hb dMo_copies_24 (by decide) (fun c24 => ?_) (fun c24 => ?_)
    · skip
      obtain ⟨q, hq1, hq3, rfl⟩ := in_nat (by decide) (by decide) c24
      have htq : tn (nI q) = q := tn_nI (by omega)
      refine lv_aload_n hx hb dMo_copies_30 rfl (lv_at hl 0 rfl) ?_
      refine z_rV (As := []) (rest := []) Sf (c_Mo_allCopies l G m0 av ab apl ase aco aen aor aba ali ale ach ast atw ats n stt nf mem kd sl fi tp 0 Co (by first | assumption | omega)) mv_Mo_90 ⟨rfl, rfl⟩ ⟨Nat.le_of_ble_eq_true rfl, Nat.le_of_ble_eq_true rfl⟩ w.1 [0, 1] rfl 0 rfl rfl rfl rfl hl.1 rfl (Nat.le_of_ble_eq_true rfl) dMo_copies_31 ⟨Nat.le_of_ble_eq_true rfl, Nat.le_of_ble_eq_true rfl⟩ ?_
      refine lv_aload_n hx hb dMo_copies_34 rfl (lv_at hl 0 rfl) ?_
      refine gf_Mo_22 Sf w.1 0 rfl rfl dMo_copies_35 ?_
      refine lv_iload_n hx hb dMo_copies_38 rfl (lv_at hl 1 rfl) ?_
      refine z_iald hx hb w.1 1 (k := k) rfl (by omega) (by omega) dMo_copies_39 ?_
      refine z_subN hx hb (by omega) dMo_copies_40 ?_
      refine lv_iload_n hx hb dMo_copies_41 rfl (lv_at hl 2 rfl) ?_
      refine z_addN hx hb dMo_copies_42 ?_
      refine lv_bipush (v := nI 16) hx hb dMo_copies_43 (by decide) ?_
      refine z_icmple (tgt := 51) hx hb (by omega) (by omega) dMo_copies_45 (by decide) (fun c45 => ?_) (fun c45 => ?_)
      · skip
        have hP : coOk nf Co (nI k) (nI q) := ⟨c10, c24, by rw [htn, htq]; omega⟩
        refine lv_aload_n hx hb dMo_copies_51 rfl (lv_at hl 0 rfl) ?_
        refine gf_Mo_22 Sf w.1 0 rfl rfl dMo_copies_52 ?_
        refine lv_iload_n hx hb dMo_copies_55 rfl (lv_at hl 1 rfl) ?_
        refine z_iald hx hb w.1 1 (k := k) rfl (by omega) (by omega) dMo_copies_56 ?_
        refine lv_istore_n (lv' := [(3, .int (nI (Co k))), (0, .ref m0), (1, .int (nI k)), (2, .int (nI q))]) hx hb dMo_copies_57 rfl hl (by decide) rfl (fun ls hl => ?_)
        refine lv_aload_n hx hb dMo_copies_58 rfl (lv_at hl 1 rfl) ?_
        refine gf_Mo_22 Sf w.1 0 rfl rfl dMo_copies_59 ?_
        refine lv_iload_n hx hb dMo_copies_62 rfl (lv_at hl 2 rfl) ?_
        refine lv_iload_n hx hb dMo_copies_63 rfl (lv_at hl 3 rfl) ?_
        refine z_iastN hx hb w 1 (k := k) rfl (by omega) (by omega) (ws' := [(m0, zO 7 [.int (nI n), .ref av, .ref ab, .ref apl, .int (nI stt), .int (nI nf), .ref ase, .ref aco, .ref aen, .int (nI mem), .int (nI kd), .int (nI sl), .ref aor, .ref aba, .int (nI fi), .ref ali, .ref ale, .ref ach, .ref ast, .ref atw, .ref ats, .int (nI tp), .int (nI 0)]), (aco, zI G 16 (fun j => nI ((va_up Co k q) j)))]) rfl dMo_copies_64 (fun H locs w => ?_)
        refine lv_iload_n hx hb dMo_copies_65 rfl (lv_at hl 0 rfl) ?_
        exact hret _ _ _ _ () _ _ w (by simp only [zif_t hP, htn, htq]) (trivial) dMo_copies_66 (by unfold coA; rw [zif_t c10, zif_t c24, zif_t hP, htn])
      · skip
        have hP : ¬ coOk nf Co (nI k) (nI q) := fun h => by
          have h2 := h.2.2
          rw [htn, htq] at h2
          omega
        refine lv_bipush (v := (-4)) hx hb dMo_copies_48 (by decide) ?_
        exact hret _ _ _ _ () _ _ w (by simp only [zif_f hP]) (trivial) dMo_copies_50 (by unfold coA; rw [zif_t c10, zif_t c24, zif_f hP])
    · skip
      have hP : ¬ coOk nf Co (nI k) y := fun h => c24 h.2.1
      refine lv_bipush (v := (-2)) hx hb dMo_copies_27 (by decide) ?_
      exact hret _ _ _ _ () _ _ w (by simp only [zif_f hP]) (trivial) dMo_copies_29 (by unfold coA; rw [zif_t c10, zif_f c24])
  · skip
    have hP : ¬ coOk nf Co f y := fun h => c10 h.1
    refine lv_iconst (v := (mI 0)) hx hb dMo_copies_13 (by decide) ?_
    exact hret _ _ _ _ () _ _ w (by simp only [zif_f hP]) (trivial) dMo_copies_14 (by unfold coA; rw [zif_f c10, mI_0])

def rm_Mo_evidence : Room := { frames := 2, cells := 0, slots := 0, locals := 80 }
set_option maxHeartbeats 4000000 in
set_option maxRecDepth 100000 in
theorem c_Mo_evidence (l : Launch) (G : zG) (m0 av ab apl ase aco aen aor aba ali ale ach ast atw ats : Nat) (n stt nf mem kd sl fi tp th : Nat) (V Bd : Nat → Nat) (x y : Int32) (hn : n ≤ 12) (hV : ∀ j, V j ≤ 4) (sz : Nat) : Met l yMo_evidence (.code yMo_evidence cMo_evidence 4 (some .int) :: zT) rm_Mo_evidence (zPw G [.ref m0, .int x, .int y] [(m0, zO 7 [.int (nI n), .ref av, .ref ab, .ref apl, .int (nI stt), .int (nI nf), .ref ase, .ref aco, .ref aen, .int (nI mem), .int (nI kd), .int (nI sl), .ref aor, .ref aba, .int (nI fi), .ref ali, .ref ale, .ref ach, .ref ast, .ref atw, .ref ats, .int (nI tp), .int (nI th)]), (av, zI G 12 (fun j => nI (V j))), (ab, zI G 12 (fun j => mI (Bd j)))] sz) (zQ (S := Unit) G (fun u => some (.int (evA n V Bd x y))) (fun u => [(m0, zO 7 [.int (nI n), .ref av, .ref ab, .ref apl, .int (nI stt), .int (nI nf), .ref ase, .ref aco, .ref aen, .int (nI mem), .int (nI kd), .int (nI sl), .ref aor, .ref aba, .int (nI fi), .ref ali, .ref ale, .ref ach, .ref ast, .ref atw, .ref ats, .int (nI tp), .int (nI 0)]), (av, zI G 12 (fun j => nI (V j))), (ab, zI G 12 (fun j => mI ((zif (evOk n V x y) (va_up Bd (tn x) (tm y)) (Bd)) j)))]) (va_A [(m0, zO 7 [.int (nI n), .ref av, .ref ab, .ref apl, .int (nI stt), .int (nI nf), .ref ase, .ref aco, .ref aen, .int (nI mem), .int (nI kd), .int (nI sl), .ref aor, .ref aba, .int (nI fi), .ref ali, .ref ale, .ref ach, .ref ast, .ref atw, .ref ats, .int (nI tp), .int (nI th)]), (av, zI G 12 (fun j => nI (V j))), (ab, zI G 12 (fun j => mI (Bd j)))] sz) (fun u => True)) 0 0 (va_A [(m0, zO 7 [.int (nI n), .ref av, .ref ab, .ref apl, .int (nI stt), .int (nI nf), .ref ase, .ref aco, .ref aen, .int (nI mem), .int (nI kd), .int (nI sl), .ref aor, .ref aba, .int (nI fi), .ref ali, .ref ale, .ref ach, .ref ast, .ref atw, .ref ats, .int (nI tp), .int (nI th)]), (av, zI G 12 (fun j => nI (V j))), (ab, zI G 12 (fun j => mI (Bd j)))] sz) := by
  refine z_metWi (by decide) (Nat.le_of_ble_eq_true rfl) (fun p e s m args below meth c ls A Q Sf hnm w hl hret => ?_)
  obtain ⟨H, hH⟩ : ∃ H, H = s.heap := ⟨_, rfl⟩
  obtain ⟨locs, hlo⟩ : ∃ L : List Loc, L = [] := ⟨_, rfl⟩
  rw [← hH, ← hlo] at w
  rw [← hH, ← hlo]
  clear hH hlo
  have Sf : CallFix p m c cMo_evidence 4 s args zT RMo := Sf
  have hx := Sf.1
  have hb := Sf.2.1
  have hown := Sf.2.2.2.1
  have hts := Sf.2.2.2.2
  have hl : lv_has ls 4 [(0, .ref m0), (1, .int x), (2, .int y)] := hl
  refine lv_aload_n hx hb dMo_evidence_0 rfl (lv_at hl 0 rfl) ?_
  refine lv_iconst (v := (nI 0)) hx hb dMo_evidence_1 (by decide) ?_
  refine pf_Mo_65 Sf w 0 rfl rfl rfl (Nat.le_of_ble_eq_true rfl) (ws' := [(m0, zO 7 [.int (nI n), .ref av, .ref ab, .ref apl, .int (nI stt), .int (nI nf), .ref ase, .ref aco, .ref aen, .int (nI mem), .int (nI kd), .int (nI sl), .ref aor, .ref aba, .int (nI fi), .ref ali, .ref ale, .ref ach, .ref ast, .ref atw, .ref ats, .int (nI tp), .int (nI 0)]), (av, zI G 12 (fun j => nI (V j))), (ab, zI G 12 (fun j => mI (Bd j)))]) rfl dMo_evidence_2 (fun H locs w => ?_)
  refine lv_aload_n hx hb dMo_evidence_5 rfl (lv_at hl 0 rfl) ?_
  refine lv_iload_n hx hb dMo_evidence_6 rfl (lv_at hl 1 rfl) ?_
  refine z_rV (As := [.int x]) (rest := []) Sf (c_Mo_isName l G m0 av ab apl ase aco aen aor aba ali ale ach ast atw ats n stt nf mem kd sl fi tp 0 x (by first | assumption | omega)) mv_Mo_104 ⟨rfl, rfl⟩ ⟨Nat.le_of_ble_eq_true rfl, Nat.le_of_ble_eq_true rfl⟩ w.1 [0] rfl 0 rfl rfl rfl rfl hl.1 rfl (Nat.le_of_ble_eq_true rfl) dMo_evidence_7 ⟨Nat.le_of_ble_eq_true rfl, Nat.le_of_ble_eq_true rfl⟩ ?_
  refine z_ifneB (tgt := 15) hx hb dMo_evidence_10 (by decide) (fun c10 => ?_) (fun c10 => ?_)
  · skip
    obtain ⟨k, hk, rfl⟩ := kn_nat (by omega) c10
    have htn : tn (nI k) = k := tn_nI (by omega)
    have hvk := hV k
    refine lv_iload_n hx hb dMo_evidence_15 rfl (lv_at hl 2 rfl) ?_
    refine lv_i2l hx hb dMo_evidence_16 rfl ?_
    refine lv_ldc2 (v := (mL 0)) hx hb hown (hts _ kc_Mo_107) dMo_evidence_17 ?_
    refine lv_aload_n hx hb dMo_evidence_20 rfl (lv_at hl 0 rfl) ?_
    refine gf_Mo_7 Sf w.1 0 rfl rfl dMo_evidence_21 ?_
    refine lv_iload_n hx hb dMo_evidence_24 rfl (lv_at hl 1 rfl) ?_
    refine z_iald hx hb w.1 1 (k := k) rfl (by omega) (by omega) dMo_evidence_25 ?_
    refine lv_iconst (v := (nI 1)) hx hb dMo_evidence_26 (by decide) ?_
    refine z_subM hx hb dMo_evidence_27 ?_
    refine lv_i2l hx hb dMo_evidence_28 rfl ?_
    refine z_rS (As := [.long y.toInt64, .long (mL 0), .long ((mI (V k)).toInt64)]) (rest := []) Sf (c_Mo_in l G y.toInt64 (mL 0) ((mI (V k)).toInt64) ) mv_Mo_71 ⟨rfl, rfl⟩ ⟨Nat.le_of_ble_eq_true rfl, Nat.le_of_ble_eq_true rfl⟩ w.1 [] rfl rfl hl.1 rfl (Nat.le_of_ble_eq_true rfl) dMo_evidence_29 ⟨Nat.le_of_ble_eq_true rfl, Nat.le_of_ble_eq_true rfl⟩ ?_
    refine z_ifneB (tgt := 38) hx hb dMo_evidence_32 (by decide) (fun c32 => ?_) (fun c32 => ?_)
    · skip
      obtain ⟨q, hq, rfl⟩ := ev_nat (by omega) c32
      have htq : tm (mI q) = q := tm_mI (by omega)
      have hP : evOk n V (nI k) (mI q) := ⟨c10, by rw [htn]; exact c32⟩
      refine lv_aload_n hx hb dMo_evidence_38 rfl (lv_at hl 0 rfl) ?_
      refine gf_Mo_13 Sf w.1 0 rfl rfl dMo_evidence_39 ?_
      refine lv_iload_n hx hb dMo_evidence_42 rfl (lv_at hl 1 rfl) ?_
      refine z_iald hx hb w.1 2 (k := k) rfl (by omega) (by omega) dMo_evidence_43 ?_
      refine lv_istore_n (lv' := [(3, .int (mI (Bd k))), (0, .ref m0), (1, .int (nI k)), (2, .int (mI q))]) hx hb dMo_evidence_44 rfl hl (by decide) rfl (fun ls hl => ?_)
      refine lv_aload_n hx hb dMo_evidence_45 rfl (lv_at hl 1 rfl) ?_
      refine gf_Mo_13 Sf w.1 0 rfl rfl dMo_evidence_46 ?_
      refine lv_iload_n hx hb dMo_evidence_49 rfl (lv_at hl 2 rfl) ?_
      refine lv_iload_n hx hb dMo_evidence_50 rfl (lv_at hl 3 rfl) ?_
      refine z_iastM hx hb w 2 (k := k) rfl (by omega) (by omega) (ws' := [(m0, zO 7 [.int (nI n), .ref av, .ref ab, .ref apl, .int (nI stt), .int (nI nf), .ref ase, .ref aco, .ref aen, .int (nI mem), .int (nI kd), .int (nI sl), .ref aor, .ref aba, .int (nI fi), .ref ali, .ref ale, .ref ach, .ref ast, .ref atw, .ref ats, .int (nI tp), .int (nI 0)]), (av, zI G 12 (fun j => nI (V j))), (ab, zI G 12 (fun j => mI ((va_up Bd k q) j)))]) rfl dMo_evidence_51 (fun H locs w => ?_)
      refine lv_iload_n hx hb dMo_evidence_52 rfl (lv_at hl 0 rfl) ?_
      exact hret _ _ _ _ () _ _ w (by simp only [zif_t hP, htn, htq]) (trivial) dMo_evidence_53 (by unfold evA; rw [zif_t c10, zif_t hP, htn])
    · skip
      have hP : ¬ evOk n V (nI k) y := fun h => c32 (by have h2 := h.2; rw [htn] at h2; exact h2)
      refine lv_bipush (v := (-2)) hx hb dMo_evidence_35 (by decide) ?_
      exact hret _ _ _ _ () _ _ w (by simp only [zif_f hP]) (trivial) dMo_evidence_37 (by unfold evA; rw [zif_t c10, zif_f hP])
  · skip
    have hP : ¬ evOk n V x y := fun h => c10 h.1
    refine lv_iconst (v := (mI 0)) hx hb dMo_evidence_13 (by decide) ?_
    exact hret _ _ _ _ () _ _ w (by simp only [zif_f hP]) (trivial) dMo_evidence_14 (by unfold evA; rw [zif_f c10, mI_0])

def rm_Mo_memory : Room := { frames := 1, cells := 0, slots := 0, locals := 40 }
set_option maxHeartbeats 4000000 in
set_option maxRecDepth 100000 in
theorem c_Mo_memory (l : Launch) (G : zG) (m0 av ab apl ase aco aen aor aba ali ale ach ast atw ats : Nat) (n stt nf mem kd sl fi tp th : Nat) (x : Int32)  (sz : Nat) : Met l yMo_memory (.code yMo_memory cMo_memory 3 (some .int) :: zT) rm_Mo_memory (zPw G [.ref m0, .int x] [(m0, zO 7 [.int (nI n), .ref av, .ref ab, .ref apl, .int (nI stt), .int (nI nf), .ref ase, .ref aco, .ref aen, .int (nI mem), .int (nI kd), .int (nI sl), .ref aor, .ref aba, .int (nI fi), .ref ali, .ref ale, .ref ach, .ref ast, .ref atw, .ref ats, .int (nI tp), .int (nI th)])] sz) (zQ (S := Unit) G (fun u => some (.int (meA mem x))) (fun u => [(m0, zO 7 [.int (nI n), .ref av, .ref ab, .ref apl, .int (nI stt), .int (nI nf), .ref ase, .ref aco, .ref aen, .int (nI (zif (inZ x.toInt64 (lN 1) (lN 65536)) (tn x) (mem))), .int (nI kd), .int (nI sl), .ref aor, .ref aba, .int (nI fi), .ref ali, .ref ale, .ref ach, .ref ast, .ref atw, .ref ats, .int (nI tp), .int (nI 0)])]) (va_A [(m0, zO 7 [.int (nI n), .ref av, .ref ab, .ref apl, .int (nI stt), .int (nI nf), .ref ase, .ref aco, .ref aen, .int (nI mem), .int (nI kd), .int (nI sl), .ref aor, .ref aba, .int (nI fi), .ref ali, .ref ale, .ref ach, .ref ast, .ref atw, .ref ats, .int (nI tp), .int (nI th)])] sz) (fun u => True)) 0 0 (va_A [(m0, zO 7 [.int (nI n), .ref av, .ref ab, .ref apl, .int (nI stt), .int (nI nf), .ref ase, .ref aco, .ref aen, .int (nI mem), .int (nI kd), .int (nI sl), .ref aor, .ref aba, .int (nI fi), .ref ali, .ref ale, .ref ach, .ref ast, .ref atw, .ref ats, .int (nI tp), .int (nI th)])] sz) := by
  refine z_metWi (by decide) (Nat.le_of_ble_eq_true rfl) (fun p e s m args below meth c ls A Q Sf hnm w hl hret => ?_)
  obtain ⟨H, hH⟩ : ∃ H, H = s.heap := ⟨_, rfl⟩
  obtain ⟨locs, hlo⟩ : ∃ L : List Loc, L = [] := ⟨_, rfl⟩
  rw [← hH, ← hlo] at w
  rw [← hH, ← hlo]
  clear hH hlo
  have Sf : CallFix p m c cMo_memory 3 s args zT RMo := Sf
  have hx := Sf.1
  have hb := Sf.2.1
  have hown := Sf.2.2.2.1
  have hts := Sf.2.2.2.2
  have hl : lv_has ls 3 [(0, .ref m0), (1, .int x)] := hl
  refine lv_aload_n hx hb dMo_memory_0 rfl (lv_at hl 0 rfl) ?_
  refine lv_iconst (v := (nI 0)) hx hb dMo_memory_1 (by decide) ?_
  refine pf_Mo_65 Sf w 0 rfl rfl rfl (Nat.le_of_ble_eq_true rfl) (ws' := [(m0, zO 7 [.int (nI n), .ref av, .ref ab, .ref apl, .int (nI stt), .int (nI nf), .ref ase, .ref aco, .ref aen, .int (nI mem), .int (nI kd), .int (nI sl), .ref aor, .ref aba, .int (nI fi), .ref ali, .ref ale, .ref ach, .ref ast, .ref atw, .ref ats, .int (nI tp), .int (nI 0)])]) rfl dMo_memory_2 (fun H locs w => ?_)
  refine lv_iload_n hx hb dMo_memory_5 rfl (lv_at hl 1 rfl) ?_
  refine lv_i2l hx hb dMo_memory_6 rfl ?_
  refine lv_lconst (v := lN 1) hx hb dMo_memory_7 (by decide) ?_
  refine lv_ldc2 (v := (lN 65536)) hx hb hown (hts _ kc_Mo_109) dMo_memory_8 ?_
  refine z_rS (As := [.long x.toInt64, .long (lN 1), .long (lN 65536)]) (rest := []) Sf (c_Mo_in l G x.toInt64 (lN 1) (lN 65536) ) mv_Mo_71 ⟨rfl, rfl⟩ ⟨Nat.le_of_ble_eq_true rfl, Nat.le_of_ble_eq_true rfl⟩ w.1 [] rfl rfl hl.1 rfl (Nat.le_of_ble_eq_true rfl) dMo_memory_11 ⟨Nat.le_of_ble_eq_true rfl, Nat.le_of_ble_eq_true rfl⟩ ?_
  refine z_ifneB (tgt := 20) hx hb dMo_memory_14 (by decide) (fun c14 => ?_) (fun c14 => ?_)
  · skip
    obtain ⟨k, hk1, hk2, rfl⟩ := in_nat (by decide) (by decide) c14
    have htn : tn (nI k) = k := tn_nI (by omega)
    refine lv_aload_n hx hb dMo_memory_20 rfl (lv_at hl 0 rfl) ?_
    refine gf_Mo_54 Sf w.1 0 rfl rfl dMo_memory_21 ?_
    refine lv_istore_n (lv' := [(2, .int (nI mem)), (0, .ref m0), (1, .int (nI k))]) hx hb dMo_memory_24 rfl hl (by decide) rfl (fun ls hl => ?_)
    refine lv_aload_n hx hb dMo_memory_25 rfl (lv_at hl 1 rfl) ?_
    refine lv_iload_n hx hb dMo_memory_26 rfl (lv_at hl 2 rfl) ?_
    refine pf_Mo_54 Sf w 0 rfl rfl rfl (Nat.le_of_ble_eq_true rfl) (ws' := [(m0, zO 7 [.int (nI n), .ref av, .ref ab, .ref apl, .int (nI stt), .int (nI nf), .ref ase, .ref aco, .ref aen, .int (nI k), .int (nI kd), .int (nI sl), .ref aor, .ref aba, .int (nI fi), .ref ali, .ref ale, .ref ach, .ref ast, .ref atw, .ref ats, .int (nI tp), .int (nI 0)])]) rfl dMo_memory_27 (fun H locs w => ?_)
    refine lv_iload_n hx hb dMo_memory_30 rfl (lv_at hl 0 rfl) ?_
    exact hret _ _ _ _ () _ _ w (by simp only [zif_t c14, htn]) (trivial) dMo_memory_31 (by unfold meA; rw [zif_t c14])
  · skip
    refine lv_bipush (v := (-2)) hx hb dMo_memory_17 (by decide) ?_
    exact hret _ _ _ _ () _ _ w (by simp only [zif_f c14]) (trivial) dMo_memory_19 (by unfold meA; rw [zif_f c14])

def rm_Mo_place : Room := { frames := 2, cells := 0, slots := 0, locals := 80 }
set_option maxHeartbeats 4000000 in
set_option maxRecDepth 100000 in
theorem c_Mo_place (l : Launch) (G : zG) (m0 av ab apl ase aco aen aor aba ali ale ach ast atw ats : Nat) (n stt nf mem kd sl fi tp th : Nat) (Pl : Nat → Nat) (x y : Int32) (hn : n ≤ 12) (sz : Nat) : Met l yMo_place (.code yMo_place cMo_place 4 (some .int) :: zT) rm_Mo_place (zPw G [.ref m0, .int x, .int y] [(m0, zO 7 [.int (nI n), .ref av, .ref ab, .ref apl, .int (nI stt), .int (nI nf), .ref ase, .ref aco, .ref aen, .int (nI mem), .int (nI kd), .int (nI sl), .ref aor, .ref aba, .int (nI fi), .ref ali, .ref ale, .ref ach, .ref ast, .ref atw, .ref ats, .int (nI tp), .int (nI th)]), (apl, zI G 12 (fun j => mI (Pl j)))] sz) (zQ (S := Unit) G (fun u => some (.int (plA n Pl x y))) (fun u => [(m0, zO 7 [.int (nI n), .ref av, .ref ab, .ref apl, .int (nI stt), .int (nI nf), .ref ase, .ref aco, .ref aen, .int (nI mem), .int (nI kd), .int (nI sl), .ref aor, .ref aba, .int (nI fi), .ref ali, .ref ale, .ref ach, .ref ast, .ref atw, .ref ats, .int (nI tp), .int (nI 0)]), (apl, zI G 12 (fun j => mI ((zif (plOk n x y) (va_up Pl (tn x) (tn y + 1)) (Pl)) j)))]) (va_A [(m0, zO 7 [.int (nI n), .ref av, .ref ab, .ref apl, .int (nI stt), .int (nI nf), .ref ase, .ref aco, .ref aen, .int (nI mem), .int (nI kd), .int (nI sl), .ref aor, .ref aba, .int (nI fi), .ref ali, .ref ale, .ref ach, .ref ast, .ref atw, .ref ats, .int (nI tp), .int (nI th)]), (apl, zI G 12 (fun j => mI (Pl j)))] sz) (fun u => True)) 0 0 (va_A [(m0, zO 7 [.int (nI n), .ref av, .ref ab, .ref apl, .int (nI stt), .int (nI nf), .ref ase, .ref aco, .ref aen, .int (nI mem), .int (nI kd), .int (nI sl), .ref aor, .ref aba, .int (nI fi), .ref ali, .ref ale, .ref ach, .ref ast, .ref atw, .ref ats, .int (nI tp), .int (nI th)]), (apl, zI G 12 (fun j => mI (Pl j)))] sz) := by
  refine z_metWi (by decide) (Nat.le_of_ble_eq_true rfl) (fun p e s m args below meth c ls A Q Sf hnm w hl hret => ?_)
  obtain ⟨H, hH⟩ : ∃ H, H = s.heap := ⟨_, rfl⟩
  obtain ⟨locs, hlo⟩ : ∃ L : List Loc, L = [] := ⟨_, rfl⟩
  rw [← hH, ← hlo] at w
  rw [← hH, ← hlo]
  clear hH hlo
  have Sf : CallFix p m c cMo_place 4 s args zT RMo := Sf
  have hx := Sf.1
  have hb := Sf.2.1
  have hown := Sf.2.2.2.1
  have hts := Sf.2.2.2.2
  have hl : lv_has ls 4 [(0, .ref m0), (1, .int x), (2, .int y)] := hl
  refine lv_aload_n hx hb dMo_place_0 rfl (lv_at hl 0 rfl) ?_
  refine lv_iconst (v := (nI 0)) hx hb dMo_place_1 (by decide) ?_
  refine pf_Mo_65 Sf w 0 rfl rfl rfl (Nat.le_of_ble_eq_true rfl) (ws' := [(m0, zO 7 [.int (nI n), .ref av, .ref ab, .ref apl, .int (nI stt), .int (nI nf), .ref ase, .ref aco, .ref aen, .int (nI mem), .int (nI kd), .int (nI sl), .ref aor, .ref aba, .int (nI fi), .ref ali, .ref ale, .ref ach, .ref ast, .ref atw, .ref ats, .int (nI tp), .int (nI 0)]), (apl, zI G 12 (fun j => mI (Pl j)))]) rfl dMo_place_2 (fun H locs w => ?_)
  refine lv_iload_n hx hb dMo_place_5 rfl (lv_at hl 1 rfl) ?_
  refine lv_i2l hx hb dMo_place_6 rfl ?_
  refine lv_lconst (v := lN 0) hx hb dMo_place_7 (by decide) ?_
  refine lv_ldc2 (v := (lN 11)) hx hb hown (hts _ kc_Mo_111) dMo_place_8 ?_
  refine z_rS (As := [.long x.toInt64, .long (lN 0), .long (lN 11)]) (rest := []) Sf (c_Mo_in l G x.toInt64 (lN 0) (lN 11) ) mv_Mo_71 ⟨rfl, rfl⟩ ⟨Nat.le_of_ble_eq_true rfl, Nat.le_of_ble_eq_true rfl⟩ w.1 [] rfl rfl hl.1 rfl (Nat.le_of_ble_eq_true rfl) dMo_place_11 ⟨Nat.le_of_ble_eq_true rfl, Nat.le_of_ble_eq_true rfl⟩ ?_
  refine z_ifneB (tgt := 20) hx hb dMo_place_14 (by decide) (fun c14 => ?_) (fun c14 => ?_)
  · skip
    obtain ⟨k, hk1, hk2, rfl⟩ := in_nat (by decide) (by decide) c14
    have htn : tn (nI k) = k := tn_nI (by omega)
    refine lv_aload_n hx hb dMo_place_20 rfl (lv_at hl 0 rfl) ?_
    refine lv_iload_n hx hb dMo_place_21 rfl (lv_at hl 2 rfl) ?_
    refine z_rV (As := [.int y]) (rest := []) Sf (c_Mo_isName l G m0 av ab apl ase aco aen aor aba ali ale ach ast atw ats n stt nf mem kd sl fi tp 0 y (by first | assumption | omega)) mv_Mo_104 ⟨rfl, rfl⟩ ⟨Nat.le_of_ble_eq_true rfl, Nat.le_of_ble_eq_true rfl⟩ w.1 [0] rfl 0 rfl rfl rfl rfl hl.1 rfl (Nat.le_of_ble_eq_true rfl) dMo_place_22 ⟨Nat.le_of_ble_eq_true rfl, Nat.le_of_ble_eq_true rfl⟩ ?_
    refine z_ifneB (tgt := 30) hx hb dMo_place_25 (by decide) (fun c25 => ?_) (fun c25 => ?_)
    · skip
      obtain ⟨q, hq, rfl⟩ := kn_nat (by omega) c25
      have htq : tn (nI q) = q := tn_nI (by omega)
      have hP : plOk n (nI k) (nI q) := ⟨c14, c25⟩
      refine lv_aload_n hx hb dMo_place_30 rfl (lv_at hl 0 rfl) ?_
      refine gf_Mo_16 Sf w.1 0 rfl rfl dMo_place_31 ?_
      refine lv_iload_n hx hb dMo_place_34 rfl (lv_at hl 1 rfl) ?_
      refine z_iald hx hb w.1 1 (k := k) rfl (by omega) (by omega) dMo_place_35 ?_
      refine lv_istore_n (lv' := [(3, .int (mI (Pl k))), (0, .ref m0), (1, .int (nI k)), (2, .int (nI q))]) hx hb dMo_place_36 rfl hl (by decide) rfl (fun ls hl => ?_)
      refine lv_aload_n hx hb dMo_place_37 rfl (lv_at hl 1 rfl) ?_
      refine gf_Mo_16 Sf w.1 0 rfl rfl dMo_place_38 ?_
      refine lv_iload_n hx hb dMo_place_41 rfl (lv_at hl 2 rfl) ?_
      refine lv_iload_n hx hb dMo_place_42 rfl (lv_at hl 3 rfl) ?_
      rw [← mI_s q]
      refine z_iastM hx hb w 1 (k := k) rfl (by omega) (by omega) (ws' := [(m0, zO 7 [.int (nI n), .ref av, .ref ab, .ref apl, .int (nI stt), .int (nI nf), .ref ase, .ref aco, .ref aen, .int (nI mem), .int (nI kd), .int (nI sl), .ref aor, .ref aba, .int (nI fi), .ref ali, .ref ale, .ref ach, .ref ast, .ref atw, .ref ats, .int (nI tp), .int (nI 0)]), (apl, zI G 12 (fun j => mI ((va_up Pl k (q + 1)) j)))]) rfl dMo_place_43 (fun H locs w => ?_)
      refine lv_iload_n hx hb dMo_place_44 rfl (lv_at hl 0 rfl) ?_
      exact hret _ _ _ _ () _ _ w (by simp only [zif_t hP, htn, htq]) (trivial) dMo_place_45 (by unfold plA; rw [zif_t c14, zif_t hP, htn])
    · skip
      have hP : ¬ plOk n (nI k) y := fun h => c25 h.2
      refine lv_iconst (v := (mI 0)) hx hb dMo_place_28 (by decide) ?_
      exact hret _ _ _ _ () _ _ w (by simp only [zif_f hP]) (trivial) dMo_place_29 (by unfold plA; rw [zif_t c14, zif_f hP, mI_0])
  · skip
    have hP : ¬ plOk n x y := fun h => c14 h.1
    refine lv_bipush (v := (-2)) hx hb dMo_place_17 (by decide) ?_
    exact hret _ _ _ _ () _ _ w (by simp only [zif_f hP]) (trivial) dMo_place_19 (by unfold plA; rw [zif_f c14])
