def rm_Mo_total : Room := { frames := 5, cells := 0, slots := 0, locals := 220 }
set_option maxHeartbeats 4000000 in
set_option maxRecDepth 100000 in
theorem c_Mo_total (l : Launch) (G : zG) (m0 av ab apl ase aco aen aor aba ali ale ach ast atw ats : Nat) (n stt nf mem kd sl fi tp th : Nat) (V Pl Se Od Bg Li Bd Co En Sx Tw Ts : Nat → Nat) (hn : n ≤ 12) (hnf : nf ≤ 16) (hV : ∀ j, V j ≤ 4) (hSe : ∀ i, Se i < 4096) (hLi : ∀ i, Li i < 4096) (hBg : ∀ i, Bg i < 4096) (hOd : ∀ i, Od i < 12) (hsl : sl ≤ 1) (hmem : mem ≤ 65536) (hV0 : ∀ j, j < n → 0 < V j ∧ V j ≤ 4) (hC4 : ∀ f, f < nf → cellsF V (Se f) n ≤ 256) (hEn : ∀ i, En i ≤ 7) (hCo : sumF Co nf ≤ 16) (hBd : ∀ i, Bd i ≤ 4) (hst : stt ≤ 65536) (hTw : ∀ i, Tw i ≤ 33232930569601) (hTs : ∀ i, Ts i ≤ 65536) (htp : tp ≤ 24) (sz : Nat) : Met l yMo_total (.code yMo_total cMo_total 1 (some .long) :: zT) rm_Mo_total (zPw G [.ref m0] [(m0, zO 7 [.int (nI n), .ref av, .ref ab, .ref apl, .int (nI stt), .int (nI nf), .ref ase, .ref aco, .ref aen, .int (nI mem), .int (nI kd), .int (nI sl), .ref aor, .ref aba, .int (nI fi), .ref ali, .ref ale, .ref ach, .ref ast, .ref atw, .ref ats, .int (nI tp), .int (nI th)]), (av, zI G 12 (fun j => nI (V j))), (apl, zI G 12 (fun j => mI (Pl j))), (ase, zI G 16 (fun j => nI (Se j))), (aor, zI G 12 (fun j => nI (Od j))), (aba, zI G 12 (fun j => nI (Bg j))), (ali, zI G 12 (fun j => nI (Li j))), (ab, zI G 12 (fun j => mI (Bd j))), (aco, zI G 16 (fun j => nI (Co j))), (aen, zI G 4096 (fun j => nI (En j))), (ast, zI G 12 (fun j => nI (Sx j))), (atw, zL G 25 (fun j => lN (Tw j))), (ats, zI G 25 (fun j => nI (Ts j)))] sz) (zQ (S := fcT) G (fun u => some (.long (zif (tmP n nf mem V Pl Se (Li, Od, Bg, kd, fi, sl)) (-4) (lN (smF (wtM V Bd Se Co En n nf) stt))))) (fun u => [(m0, zO 7 [.int (nI n), .ref av, .ref ab, .ref apl, .int (nI stt), .int (nI nf), .ref ase, .ref aco, .ref aen, .int (nI mem), .int (nI u.1.2.2.2.1), .int (nI u.1.2.2.2.2.2), .ref aor, .ref aba, .int (nI u.1.2.2.2.2.1), .ref ali, .ref ale, .ref ach, .ref ast, .ref atw, .ref ats, .int (nI u.2.2.2.2), .int (nI 0)]), (av, zI G 12 (fun j => nI (V j))), (apl, zI G 12 (fun j => mI (Pl j))), (ase, zI G 16 (fun j => nI (Se j))), (aor, zI G 12 (fun j => nI (u.1.2.1 j))), (aba, zI G 12 (fun j => nI (u.1.2.2.1 j))), (ali, zI G 12 (fun j => nI (u.1.1 j))), (ab, zI G 12 (fun j => mI (Bd j))), (aco, zI G 16 (fun j => nI (Co j))), (aen, zI G 4096 (fun j => nI (En j))), (ast, zI G 12 (fun j => nI (u.2.1 j))), (atw, zL G 25 (fun j => lN (u.2.2.1 j))), (ats, zI G 25 (fun j => nI (u.2.2.2.1 j)))]) (va_A [(m0, zO 7 [.int (nI n), .ref av, .ref ab, .ref apl, .int (nI stt), .int (nI nf), .ref ase, .ref aco, .ref aen, .int (nI mem), .int (nI kd), .int (nI sl), .ref aor, .ref aba, .int (nI fi), .ref ali, .ref ale, .ref ach, .ref ast, .ref atw, .ref ats, .int (nI tp), .int (nI th)]), (av, zI G 12 (fun j => nI (V j))), (apl, zI G 12 (fun j => mI (Pl j))), (ase, zI G 16 (fun j => nI (Se j))), (aor, zI G 12 (fun j => nI (Od j))), (aba, zI G 12 (fun j => nI (Bg j))), (ali, zI G 12 (fun j => nI (Li j))), (ab, zI G 12 (fun j => mI (Bd j))), (aco, zI G 16 (fun j => nI (Co j))), (aen, zI G 4096 (fun j => nI (En j))), (ast, zI G 12 (fun j => nI (Sx j))), (atw, zL G 25 (fun j => lN (Tw j))), (ats, zI G 25 (fun j => nI (Ts j)))] sz) (fun u => fcP n nf V Pl Se (Li, Od, Bg, kd, fi, sl) u)) 0 0 (va_A [(m0, zO 7 [.int (nI n), .ref av, .ref ab, .ref apl, .int (nI stt), .int (nI nf), .ref ase, .ref aco, .ref aen, .int (nI mem), .int (nI kd), .int (nI sl), .ref aor, .ref aba, .int (nI fi), .ref ali, .ref ale, .ref ach, .ref ast, .ref atw, .ref ats, .int (nI tp), .int (nI th)]), (av, zI G 12 (fun j => nI (V j))), (apl, zI G 12 (fun j => mI (Pl j))), (ase, zI G 16 (fun j => nI (Se j))), (aor, zI G 12 (fun j => nI (Od j))), (aba, zI G 12 (fun j => nI (Bg j))), (ali, zI G 12 (fun j => nI (Li j))), (ab, zI G 12 (fun j => mI (Bd j))), (aco, zI G 16 (fun j => nI (Co j))), (aen, zI G 4096 (fun j => nI (En j))), (ast, zI G 12 (fun j => nI (Sx j))), (atw, zL G 25 (fun j => lN (Tw j))), (ats, zI G 25 (fun j => nI (Ts j)))] sz) := by
  refine z_metWl (by decide) (Nat.le_of_ble_eq_true rfl) (fun p e s m args below meth c ls A Q Sf hnm w hl hret => ?_)
  obtain ⟨H, hH⟩ : ∃ H, H = s.heap := ⟨_, rfl⟩
  obtain ⟨locs, hlo⟩ : ∃ L : List Loc, L = [] := ⟨_, rfl⟩
  rw [← hH, ← hlo] at w
  rw [← hH, ← hlo]
  clear hH hlo
  have Sf : CallFix p m c cMo_total 1 s args zT RMo := Sf
  have hx := Sf.1
  have hb := Sf.2.1
  have hown := Sf.2.2.2.1
  have hts := Sf.2.2.2.2
  have hl : lv_has ls 1 [(0, .ref m0)] := hl
  refine lv_aload_n hx hb dMo_total_0 rfl (lv_at hl 0 rfl) ?_
  refine lv_iconst (v := (nI 0)) hx hb dMo_total_1 (by decide) ?_
  refine pf_Mo_65 Sf w 0 rfl rfl rfl (Nat.le_of_ble_eq_true rfl) (ws' := [(m0, zO 7 [.int (nI n), .ref av, .ref ab, .ref apl, .int (nI stt), .int (nI nf), .ref ase, .ref aco, .ref aen, .int (nI mem), .int (nI kd), .int (nI sl), .ref aor, .ref aba, .int (nI fi), .ref ali, .ref ale, .ref ach, .ref ast, .ref atw, .ref ats, .int (nI tp), .int (nI 0)]), (av, zI G 12 (fun j => nI (V j))), (apl, zI G 12 (fun j => mI (Pl j))), (ase, zI G 16 (fun j => nI (Se j))), (aor, zI G 12 (fun j => nI (Od j))), (aba, zI G 12 (fun j => nI (Bg j))), (ali, zI G 12 (fun j => nI (Li j))), (ab, zI G 12 (fun j => mI (Bd j))), (aco, zI G 16 (fun j => nI (Co j))), (aen, zI G 4096 (fun j => nI (En j))), (ast, zI G 12 (fun j => nI (Sx j))), (atw, zL G 25 (fun j => lN (Tw j))), (ats, zI G 25 (fun j => nI (Ts j)))]) rfl dMo_total_2 (fun H locs w => ?_)
  refine lv_aload_n hx hb dMo_total_5 rfl (lv_at hl 0 rfl) ?_
  refine z_wV (wr := [(ab, zI G 12 (fun j => mI (Bd j))), (aco, zI G 16 (fun j => nI (Co j))), (aen, zI G 4096 (fun j => nI (En j))), (ast, zI G 12 (fun j => nI (Sx j))), (atw, zL G 25 (fun j => lN (Tw j))), (ats, zI G 25 (fun j => nI (Ts j)))]) (As := []) (rest := []) Sf (c_Mo_isTooMuch l G m0 av ab apl ase aco aen aor aba ali ale ach ast atw ats n stt nf mem kd sl fi tp 0 V Pl Se Od Bg Li (by first | assumption | omega) (by first | assumption | omega) (by first | assumption | omega) (by first | assumption | omega) (by first | assumption | omega) (by first | assumption | omega) (by first | assumption | omega) (by first | assumption | omega) (by first | assumption | omega) H.size) mv_Mo_173 ⟨rfl, rfl⟩ ⟨Nat.le_of_ble_eq_true rfl, Nat.le_of_ble_eq_true rfl⟩ w [0, 1, 2, 3, 4, 5, 6] [7, 8, 9, 10, 11, 12] rfl rfl (by decide) (by decide) (by decide) 0 rfl rfl rfl rfl hl.1 rfl (Nat.le_of_ble_eq_true rfl) dMo_total_6 ⟨Nat.le_of_ble_eq_true rfl, Nat.le_of_ble_eq_true rfl⟩ (fun u1 H locs hu1 w => ?_)
  have w := w.eq (ws' := [(ab, zI G 12 (fun j => mI (Bd j))), (aco, zI G 16 (fun j => nI (Co j))), (aen, zI G 4096 (fun j => nI (En j))), (ast, zI G 12 (fun j => nI (Sx j))), (atw, zL G 25 (fun j => lN (Tw j))), (ats, zI G 25 (fun j => nI (Ts j))), (m0, zO 7 [.int (nI n), .ref av, .ref ab, .ref apl, .int (nI stt), .int (nI nf), .ref ase, .ref aco, .ref aen, .int (nI mem), .int (nI ((rfZ n nf sl kd fi V Pl Se Li Od Bg).2.2.2.1)), .int (nI 0), .ref aor, .ref aba, .int (nI ((rfZ n nf sl kd fi V Pl Se Li Od Bg).2.2.2.2)), .ref ali, .ref ale, .ref ach, .ref ast, .ref atw, .ref ats, .int (nI tp), .int (nI 0)]), (av, zI G 12 (fun j => nI (V j))), (apl, zI G 12 (fun j => mI (Pl j))), (ase, zI G 16 (fun j => nI (Se j))), (aor, zI G 12 (fun j => nI (((rfZ n nf sl kd fi V Pl Se Li Od Bg).2.1) j))), (aba, zI G 12 (fun j => nI (((rfZ n nf sl kd fi V Pl Se Li Od Bg).2.2.1) j))), (ali, zI G 12 (fun j => nI (((rfZ n nf sl kd fi V Pl Se Li Od Bg).1) j)))]) rfl
  refine W.eq (g2 := F0 m 9 ls [.int (bI (mem < mcF V (rfZ n nf sl kd fi V Pl Se Li Od Bg).2.2.1 n n))]) rfl ?_
  refine z_ifeqB (tgt := 18) hx hb dMo_total_9 (by decide) (fun c9 => ?_) (fun c9 => ?_)
  · skip
    refine lv_aload_n hx hb dMo_total_18 rfl (lv_at hl 0 rfl) ?_
    refine z_wV (wr := [(atw, zL G 25 (fun j => lN (Tw j))), (ats, zI G 25 (fun j => nI (Ts j))), (apl, zI G 12 (fun j => mI (Pl j))), (aor, zI G 12 (fun j => nI (((rfZ n nf sl kd fi V Pl Se Li Od Bg).2.1) j))), (aba, zI G 12 (fun j => nI (((rfZ n nf sl kd fi V Pl Se Li Od Bg).2.2.1) j))), (ali, zI G 12 (fun j => nI (((rfZ n nf sl kd fi V Pl Se Li Od Bg).1) j)))]) (As := []) (rest := []) Sf (c_Mo_sum l G m0 av ab apl ase aco aen aor aba ali ale ach ast atw ats n stt nf mem ((rfZ n nf sl kd fi V Pl Se Li Od Bg).2.2.2.1) 0 ((rfZ n nf sl kd fi V Pl Se Li Od Bg).2.2.2.2) tp 0 V Bd Se Co En Sx (by first | assumption | omega) (by first | assumption | omega) (by first | assumption | omega) (by first | assumption | omega) (by first | assumption | omega) (by first | assumption | omega) (by first | assumption | omega) (by first | assumption | omega) (by first | assumption | omega) H.size) mv_Mo_179 ⟨rfl, rfl⟩ ⟨Nat.le_of_ble_eq_true rfl, Nat.le_of_ble_eq_true rfl⟩ w [6, 7, 0, 9, 1, 2, 3] [4, 5, 8, 10, 11, 12] rfl rfl (by decide) (by decide) (by decide) 6 rfl rfl rfl rfl hl.1 rfl (Nat.le_of_ble_eq_true rfl) dMo_total_19 ⟨Nat.le_of_ble_eq_true rfl, Nat.le_of_ble_eq_true rfl⟩ (fun u2 H locs hu2 w => ?_)
    have w := w.eq (ws' := [(atw, zL G 25 (fun j => lN (Tw j))), (ats, zI G 25 (fun j => nI (Ts j))), (apl, zI G 12 (fun j => mI (Pl j))), (aor, zI G 12 (fun j => nI (((rfZ n nf sl kd fi V Pl Se Li Od Bg).2.1) j))), (aba, zI G 12 (fun j => nI (((rfZ n nf sl kd fi V Pl Se Li Od Bg).2.2.1) j))), (ali, zI G 12 (fun j => nI (((rfZ n nf sl kd fi V Pl Se Li Od Bg).1) j))), (m0, zO 7 [.int (nI n), .ref av, .ref ab, .ref apl, .int (nI stt), .int (nI nf), .ref ase, .ref aco, .ref aen, .int (nI mem), .int (nI ((rfZ n nf sl kd fi V Pl Se Li Od Bg).2.2.2.1)), .int (nI 0), .ref aor, .ref aba, .int (nI ((rfZ n nf sl kd fi V Pl Se Li Od Bg).2.2.2.2)), .ref ali, .ref ale, .ref ach, .ref ast, .ref atw, .ref ats, .int (nI tp), .int (nI 0)]), (av, zI G 12 (fun j => nI (V j))), (ab, zI G 12 (fun j => mI (Bd j))), (ase, zI G 16 (fun j => nI (Se j))), (aco, zI G 16 (fun j => nI (Co j))), (aen, zI G 4096 (fun j => nI (En j))), (ast, zI G 12 (fun j => nI (u2 j)))]) rfl
    refine W.eq (g2 := F0 m 22 ls [.long (lN (smF (wtM V Bd Se Co En n nf) stt))]) rfl ?_
    have w := w.perm (ws' := [(m0, zO 7 [.int (nI n), .ref av, .ref ab, .ref apl, .int (nI stt), .int (nI nf), .ref ase, .ref aco, .ref aen, .int (nI mem), .int (nI ((rfZ n nf sl kd fi V Pl Se Li Od Bg).2.2.2.1)), .int (nI 0), .ref aor, .ref aba, .int (nI ((rfZ n nf sl kd fi V Pl Se Li Od Bg).2.2.2.2)), .ref ali, .ref ale, .ref ach, .ref ast, .ref atw, .ref ats, .int (nI tp), .int (nI 0)]), (av, zI G 12 (fun j => nI (V j))), (apl, zI G 12 (fun j => mI (Pl j))), (ase, zI G 16 (fun j => nI (Se j))), (aor, zI G 12 (fun j => nI (((rfZ n nf sl kd fi V Pl Se Li Od Bg).2.1) j))), (aba, zI G 12 (fun j => nI (((rfZ n nf sl kd fi V Pl Se Li Od Bg).2.2.1) j))), (ali, zI G 12 (fun j => nI (((rfZ n nf sl kd fi V Pl Se Li Od Bg).1) j))), (ab, zI G 12 (fun j => mI (Bd j))), (aco, zI G 16 (fun j => nI (Co j))), (aen, zI G 4096 (fun j => nI (En j))), (ast, zI G 12 (fun j => nI (u2 j))), (atw, zL G 25 (fun j => lN (Tw j))), (ats, zI G 25 (fun j => nI (Ts j)))]) [6, 7, 2, 9, 3, 4, 5, 8, 10, 11, 12, 0, 1] (by decide) rfl
    exact hret _ _ _ _ (((rfZ n nf sl kd fi V Pl Se Li Od Bg).1, (rfZ n nf sl kd fi V Pl Se Li Od Bg).2.1, (rfZ n nf sl kd fi V Pl Se Li Od Bg).2.2.1, ((rfZ n nf sl kd fi V Pl Se Li Od Bg).2.2.2.1), ((rfZ n nf sl kd fi V Pl Se Li Od Bg).2.2.2.2), 0), u2, Tw, Ts, tp) _ _ w (rfl) (⟨(oS_b hn hSe hLi hOd hBg), hTw, hTs, htp⟩) dMo_total_22 (by first | (rw [zif_t (show tmP n nf mem V Pl Se (Li, Od, Bg, kd, fi, sl) from c9)]; done) | (rw [zif_f (show ¬ tmP n nf mem V Pl Se (Li, Od, Bg, kd, fi, sl) from c9)]))
  · skip
    refine lv_ldc2 (v := (-4)) hx hb hown (hts _ kc_Mo_177) dMo_total_12 ?_
    refine lv_goto (tgt := 22) hx hb dMo_total_15 (by decide) ?_
    have w := w.perm (ws' := [(m0, zO 7 [.int (nI n), .ref av, .ref ab, .ref apl, .int (nI stt), .int (nI nf), .ref ase, .ref aco, .ref aen, .int (nI mem), .int (nI ((rfZ n nf sl kd fi V Pl Se Li Od Bg).2.2.2.1)), .int (nI 0), .ref aor, .ref aba, .int (nI ((rfZ n nf sl kd fi V Pl Se Li Od Bg).2.2.2.2)), .ref ali, .ref ale, .ref ach, .ref ast, .ref atw, .ref ats, .int (nI tp), .int (nI 0)]), (av, zI G 12 (fun j => nI (V j))), (apl, zI G 12 (fun j => mI (Pl j))), (ase, zI G 16 (fun j => nI (Se j))), (aor, zI G 12 (fun j => nI (((rfZ n nf sl kd fi V Pl Se Li Od Bg).2.1) j))), (aba, zI G 12 (fun j => nI (((rfZ n nf sl kd fi V Pl Se Li Od Bg).2.2.1) j))), (ali, zI G 12 (fun j => nI (((rfZ n nf sl kd fi V Pl Se Li Od Bg).1) j))), (ab, zI G 12 (fun j => mI (Bd j))), (aco, zI G 16 (fun j => nI (Co j))), (aen, zI G 4096 (fun j => nI (En j))), (ast, zI G 12 (fun j => nI (Sx j))), (atw, zL G 25 (fun j => lN (Tw j))), (ats, zI G 25 (fun j => nI (Ts j)))]) [6, 7, 8, 9, 10, 11, 12, 0, 1, 2, 3, 4, 5] (by decide) rfl
    exact hret _ _ _ _ (((rfZ n nf sl kd fi V Pl Se Li Od Bg).1, (rfZ n nf sl kd fi V Pl Se Li Od Bg).2.1, (rfZ n nf sl kd fi V Pl Se Li Od Bg).2.2.1, ((rfZ n nf sl kd fi V Pl Se Li Od Bg).2.2.2.1), ((rfZ n nf sl kd fi V Pl Se Li Od Bg).2.2.2.2), 0), Sx, Tw, Ts, tp) _ _ w (rfl) (⟨(oS_b hn hSe hLi hOd hBg), hTw, hTs, htp⟩) dMo_total_22 (by first | (rw [zif_t (show tmP n nf mem V Pl Se (Li, Od, Bg, kd, fi, sl) from c9)]; done) | (rw [zif_f (show ¬ tmP n nf mem V Pl Se (Li, Od, Bg, kd, fi, sl) from c9)]))

def rm_Mo_support : Room := { frames := 5, cells := 0, slots := 0, locals := 220 }
set_option maxHeartbeats 4000000 in
set_option maxRecDepth 100000 in
theorem c_Mo_support (l : Launch) (G : zG) (m0 av ab apl ase aco aen aor aba ali ale ach ast atw ats : Nat) (n stt nf mem kd sl fi tp th : Nat) (V Pl Se Od Bg Li Bd Co En Sx Tw Ts : Nat → Nat) (hn : n ≤ 12) (hnf : nf ≤ 16) (hV : ∀ j, V j ≤ 4) (hSe : ∀ i, Se i < 4096) (hLi : ∀ i, Li i < 4096) (hBg : ∀ i, Bg i < 4096) (hOd : ∀ i, Od i < 12) (hsl : sl ≤ 1) (hmem : mem ≤ 65536) (hV0 : ∀ j, j < n → 0 < V j ∧ V j ≤ 4) (hC4 : ∀ f, f < nf → cellsF V (Se f) n ≤ 256) (hEn : ∀ i, En i ≤ 7) (hCo : sumF Co nf ≤ 16) (hBd : ∀ i, Bd i ≤ 4) (hst : stt ≤ 65536) (hTw : ∀ i, Tw i ≤ 33232930569601) (hTs : ∀ i, Ts i ≤ 65536) (htp : tp ≤ 24) (sz : Nat) : Met l yMo_support (.code yMo_support cMo_support 3 (some .int) :: zT) rm_Mo_support (zPw G [.ref m0] [(m0, zO 7 [.int (nI n), .ref av, .ref ab, .ref apl, .int (nI stt), .int (nI nf), .ref ase, .ref aco, .ref aen, .int (nI mem), .int (nI kd), .int (nI sl), .ref aor, .ref aba, .int (nI fi), .ref ali, .ref ale, .ref ach, .ref ast, .ref atw, .ref ats, .int (nI tp), .int (nI th)]), (av, zI G 12 (fun j => nI (V j))), (apl, zI G 12 (fun j => mI (Pl j))), (ase, zI G 16 (fun j => nI (Se j))), (aor, zI G 12 (fun j => nI (Od j))), (aba, zI G 12 (fun j => nI (Bg j))), (ali, zI G 12 (fun j => nI (Li j))), (ab, zI G 12 (fun j => mI (Bd j))), (aco, zI G 16 (fun j => nI (Co j))), (aen, zI G 4096 (fun j => nI (En j))), (ast, zI G 12 (fun j => nI (Sx j))), (atw, zL G 25 (fun j => lN (Tw j))), (ats, zI G 25 (fun j => nI (Ts j)))] sz) (zQ (S := fcT) G (fun u => some (.int (zif (tmP n nf mem V Pl Se (Li, Od, Bg, kd, fi, sl)) (-4) (nI (cnF (wtM V Bd Se Co En n nf) stt))))) (fun u => [(m0, zO 7 [.int (nI n), .ref av, .ref ab, .ref apl, .int (nI stt), .int (nI nf), .ref ase, .ref aco, .ref aen, .int (nI mem), .int (nI u.1.2.2.2.1), .int (nI u.1.2.2.2.2.2), .ref aor, .ref aba, .int (nI u.1.2.2.2.2.1), .ref ali, .ref ale, .ref ach, .ref ast, .ref atw, .ref ats, .int (nI u.2.2.2.2), .int (nI 0)]), (av, zI G 12 (fun j => nI (V j))), (apl, zI G 12 (fun j => mI (Pl j))), (ase, zI G 16 (fun j => nI (Se j))), (aor, zI G 12 (fun j => nI (u.1.2.1 j))), (aba, zI G 12 (fun j => nI (u.1.2.2.1 j))), (ali, zI G 12 (fun j => nI (u.1.1 j))), (ab, zI G 12 (fun j => mI (Bd j))), (aco, zI G 16 (fun j => nI (Co j))), (aen, zI G 4096 (fun j => nI (En j))), (ast, zI G 12 (fun j => nI (u.2.1 j))), (atw, zL G 25 (fun j => lN (u.2.2.1 j))), (ats, zI G 25 (fun j => nI (u.2.2.2.1 j)))]) (va_A [(m0, zO 7 [.int (nI n), .ref av, .ref ab, .ref apl, .int (nI stt), .int (nI nf), .ref ase, .ref aco, .ref aen, .int (nI mem), .int (nI kd), .int (nI sl), .ref aor, .ref aba, .int (nI fi), .ref ali, .ref ale, .ref ach, .ref ast, .ref atw, .ref ats, .int (nI tp), .int (nI th)]), (av, zI G 12 (fun j => nI (V j))), (apl, zI G 12 (fun j => mI (Pl j))), (ase, zI G 16 (fun j => nI (Se j))), (aor, zI G 12 (fun j => nI (Od j))), (aba, zI G 12 (fun j => nI (Bg j))), (ali, zI G 12 (fun j => nI (Li j))), (ab, zI G 12 (fun j => mI (Bd j))), (aco, zI G 16 (fun j => nI (Co j))), (aen, zI G 4096 (fun j => nI (En j))), (ast, zI G 12 (fun j => nI (Sx j))), (atw, zL G 25 (fun j => lN (Tw j))), (ats, zI G 25 (fun j => nI (Ts j)))] sz) (fun u => fcP n nf V Pl Se (Li, Od, Bg, kd, fi, sl) u)) 0 0 (va_A [(m0, zO 7 [.int (nI n), .ref av, .ref ab, .ref apl, .int (nI stt), .int (nI nf), .ref ase, .ref aco, .ref aen, .int (nI mem), .int (nI kd), .int (nI sl), .ref aor, .ref aba, .int (nI fi), .ref ali, .ref ale, .ref ach, .ref ast, .ref atw, .ref ats, .int (nI tp), .int (nI th)]), (av, zI G 12 (fun j => nI (V j))), (apl, zI G 12 (fun j => mI (Pl j))), (ase, zI G 16 (fun j => nI (Se j))), (aor, zI G 12 (fun j => nI (Od j))), (aba, zI G 12 (fun j => nI (Bg j))), (ali, zI G 12 (fun j => nI (Li j))), (ab, zI G 12 (fun j => mI (Bd j))), (aco, zI G 16 (fun j => nI (Co j))), (aen, zI G 4096 (fun j => nI (En j))), (ast, zI G 12 (fun j => nI (Sx j))), (atw, zL G 25 (fun j => lN (Tw j))), (ats, zI G 25 (fun j => nI (Ts j)))] sz) := by
  refine z_metWi (by decide) (Nat.le_of_ble_eq_true rfl) (fun p e s m args below meth c ls A Q Sf hnm w hl hret => ?_)
  obtain ⟨H, hH⟩ : ∃ H, H = s.heap := ⟨_, rfl⟩
  obtain ⟨locs, hlo⟩ : ∃ L : List Loc, L = [] := ⟨_, rfl⟩
  rw [← hH, ← hlo] at w
  rw [← hH, ← hlo]
  clear hH hlo
  have Sf : CallFix p m c cMo_support 3 s args zT RMo := Sf
  have hx := Sf.1
  have hb := Sf.2.1
  have hown := Sf.2.2.2.1
  have hts := Sf.2.2.2.2
  have hl : lv_has ls 3 [(0, .ref m0)] := hl
  refine lv_aload_n hx hb dMo_support_0 rfl (lv_at hl 0 rfl) ?_
  refine lv_iconst (v := (nI 0)) hx hb dMo_support_1 (by decide) ?_
  refine pf_Mo_65 Sf w 0 rfl rfl rfl (Nat.le_of_ble_eq_true rfl) (ws' := [(m0, zO 7 [.int (nI n), .ref av, .ref ab, .ref apl, .int (nI stt), .int (nI nf), .ref ase, .ref aco, .ref aen, .int (nI mem), .int (nI kd), .int (nI sl), .ref aor, .ref aba, .int (nI fi), .ref ali, .ref ale, .ref ach, .ref ast, .ref atw, .ref ats, .int (nI tp), .int (nI 0)]), (av, zI G 12 (fun j => nI (V j))), (apl, zI G 12 (fun j => mI (Pl j))), (ase, zI G 16 (fun j => nI (Se j))), (aor, zI G 12 (fun j => nI (Od j))), (aba, zI G 12 (fun j => nI (Bg j))), (ali, zI G 12 (fun j => nI (Li j))), (ab, zI G 12 (fun j => mI (Bd j))), (aco, zI G 16 (fun j => nI (Co j))), (aen, zI G 4096 (fun j => nI (En j))), (ast, zI G 12 (fun j => nI (Sx j))), (atw, zL G 25 (fun j => lN (Tw j))), (ats, zI G 25 (fun j => nI (Ts j)))]) rfl dMo_support_2 (fun H locs w => ?_)
  refine lv_aload_n hx hb dMo_support_5 rfl (lv_at hl 0 rfl) ?_
  refine z_wV (wr := [(ab, zI G 12 (fun j => mI (Bd j))), (aco, zI G 16 (fun j => nI (Co j))), (aen, zI G 4096 (fun j => nI (En j))), (ast, zI G 12 (fun j => nI (Sx j))), (atw, zL G 25 (fun j => lN (Tw j))), (ats, zI G 25 (fun j => nI (Ts j)))]) (As := []) (rest := []) Sf (c_Mo_isTooMuch l G m0 av ab apl ase aco aen aor aba ali ale ach ast atw ats n stt nf mem kd sl fi tp 0 V Pl Se Od Bg Li (by first | assumption | omega) (by first | assumption | omega) (by first | assumption | omega) (by first | assumption | omega) (by first | assumption | omega) (by first | assumption | omega) (by first | assumption | omega) (by first | assumption | omega) (by first | assumption | omega) H.size) mv_Mo_173 ⟨rfl, rfl⟩ ⟨Nat.le_of_ble_eq_true rfl, Nat.le_of_ble_eq_true rfl⟩ w [0, 1, 2, 3, 4, 5, 6] [7, 8, 9, 10, 11, 12] rfl rfl (by decide) (by decide) (by decide) 0 rfl rfl rfl rfl hl.1 rfl (Nat.le_of_ble_eq_true rfl) dMo_support_6 ⟨Nat.le_of_ble_eq_true rfl, Nat.le_of_ble_eq_true rfl⟩ (fun u1 H locs hu1 w => ?_)
  have w := w.eq (ws' := [(ab, zI G 12 (fun j => mI (Bd j))), (aco, zI G 16 (fun j => nI (Co j))), (aen, zI G 4096 (fun j => nI (En j))), (ast, zI G 12 (fun j => nI (Sx j))), (atw, zL G 25 (fun j => lN (Tw j))), (ats, zI G 25 (fun j => nI (Ts j))), (m0, zO 7 [.int (nI n), .ref av, .ref ab, .ref apl, .int (nI stt), .int (nI nf), .ref ase, .ref aco, .ref aen, .int (nI mem), .int (nI ((rfZ n nf sl kd fi V Pl Se Li Od Bg).2.2.2.1)), .int (nI 0), .ref aor, .ref aba, .int (nI ((rfZ n nf sl kd fi V Pl Se Li Od Bg).2.2.2.2)), .ref ali, .ref ale, .ref ach, .ref ast, .ref atw, .ref ats, .int (nI tp), .int (nI 0)]), (av, zI G 12 (fun j => nI (V j))), (apl, zI G 12 (fun j => mI (Pl j))), (ase, zI G 16 (fun j => nI (Se j))), (aor, zI G 12 (fun j => nI (((rfZ n nf sl kd fi V Pl Se Li Od Bg).2.1) j))), (aba, zI G 12 (fun j => nI (((rfZ n nf sl kd fi V Pl Se Li Od Bg).2.2.1) j))), (ali, zI G 12 (fun j => nI (((rfZ n nf sl kd fi V Pl Se Li Od Bg).1) j)))]) rfl
  refine W.eq (g2 := F0 m 9 ls [.int (bI (mem < mcF V (rfZ n nf sl kd fi V Pl Se Li Od Bg).2.2.1 n n))]) rfl ?_
  refine z_ifeqB (tgt := 15) hx hb dMo_support_9 (by decide) (fun c9 => ?_) (fun c9 => ?_)
  · skip
    refine lv_iconst (v := (nI 0)) hx hb dMo_support_15 (by decide) ?_
    refine lv_istore_n (lv' := [(1, .int (nI 0)), (0, .ref m0)]) hx hb dMo_support_16 rfl hl (by decide) rfl (fun ls hl => ?_)
    refine lv_iconst (v := (nI 0)) hx hb dMo_support_17 (by decide) ?_
    refine lv_istore_n (lv' := [(2, .int (nI 0)), (1, .int (nI 0)), (0, .ref m0)]) hx hb dMo_support_18 rfl hl (by decide) rfl (fun ls hl => ?_)
    have L19 : ∀ (fu19 : Nat) (k t : Nat) (F : Nat → Nat), (k ≤ stt) → (t = cnF (wtM V Bd Se Co En n nf) k) → (stt - k) < fu19 → ∀ (H : Heap) (locs : List Loc), zw G A s [(m0, zO 7 [.int (nI n), .ref av, .ref ab, .ref apl, .int (nI stt), .int (nI nf), .ref ase, .ref aco, .ref aen, .int (nI mem), .int (nI ((rfZ n nf sl kd fi V Pl Se Li Od Bg).2.2.2.1)), .int (nI 0), .ref aor, .ref aba, .int (nI ((rfZ n nf sl kd fi V Pl Se Li Od Bg).2.2.2.2)), .ref ali, .ref ale, .ref ach, .ref ast, .ref atw, .ref ats, .int (nI tp), .int (nI 0)]), (av, zI G 12 (fun j => nI (V j))), (apl, zI G 12 (fun j => mI (Pl j))), (ase, zI G 16 (fun j => nI (Se j))), (aor, zI G 12 (fun j => nI (((rfZ n nf sl kd fi V Pl Se Li Od Bg).2.1) j))), (aba, zI G 12 (fun j => nI (((rfZ n nf sl kd fi V Pl Se Li Od Bg).2.2.1) j))), (ali, zI G 12 (fun j => nI (((rfZ n nf sl kd fi V Pl Se Li Od Bg).1) j))), (ab, zI G 12 (fun j => mI (Bd j))), (aco, zI G 16 (fun j => nI (Co j))), (aen, zI G 4096 (fun j => nI (En j))), (ast, zI G 12 (fun j => nI (F j))), (atw, zL G 25 (fun j => lN (Tw j))), (ats, zI G 25 (fun j => nI (Ts j)))] H locs → ∀ (ls : Array Slot), lv_has ls 3 [(2, .int (nI k)), (1, .int (nI t)), (0, .ref m0)] → W p l e rm_Mo_support s m args below meth c H locs 0 0 Q (F0 m 19 ls []) := by
      intro fu19
      induction fu19 with
      | zero =>
        intro k t F hk ht hm19
        exact absurd hm19 (Nat.not_lt_zero _)
      | succ fu19 ih19 =>
        intro k t F hk ht hm19 H locs w ls hl
        refine lv_iload_n hx hb dMo_support_19 rfl (lv_at hl 0 rfl) ?_
        refine lv_aload_n hx hb dMo_support_20 rfl (lv_at hl 2 rfl) ?_
        refine gf_Mo_58 Sf w.1 0 rfl rfl dMo_support_21 ?_
        refine z_icmpge (tgt := 51) hx hb (by omega) (by omega) dMo_support_24 (by decide) (fun c24 => ?_) (fun c24 => ?_)
        · skip
          refine lv_iload_n hx hb dMo_support_51 rfl (lv_at hl 1 rfl) ?_
          exact hret _ _ _ _ (((rfZ n nf sl kd fi V Pl Se Li Od Bg).1, (rfZ n nf sl kd fi V Pl Se Li Od Bg).2.1, (rfZ n nf sl kd fi V Pl Se Li Od Bg).2.2.1, ((rfZ n nf sl kd fi V Pl Se Li Od Bg).2.2.2.1), ((rfZ n nf sl kd fi V Pl Se Li Od Bg).2.2.2.2), 0), F, Tw, Ts, tp) _ _ w (rfl) (⟨(oS_b hn hSe hLi hOd hBg), hTw, hTs, htp⟩) dMo_support_52 (by rw [zif_f (show ¬ tmP n nf mem V Pl Se (Li, Od, Bg, kd, fi, sl) from c9), ht, show k = stt by omega])
        · skip
          refine lv_aload_n hx hb dMo_support_27 rfl (lv_at hl 2 rfl) ?_
          refine lv_iload_n hx hb dMo_support_28 rfl (lv_at hl 0 rfl) ?_
          refine z_wV (wr := [(apl, zI G 12 (fun j => mI (Pl j))), (aor, zI G 12 (fun j => nI (((rfZ n nf sl kd fi V Pl Se Li Od Bg).2.1) j))), (aba, zI G 12 (fun j => nI (((rfZ n nf sl kd fi V Pl Se Li Od Bg).2.2.1) j))), (ali, zI G 12 (fun j => nI (((rfZ n nf sl kd fi V Pl Se Li Od Bg).1) j))), (atw, zL G 25 (fun j => lN (Tw j))), (ats, zI G 25 (fun j => nI (Ts j)))]) (As := [.int (nI k)]) (rest := []) Sf (c_Mo_weigh l G m0 av ab apl ase aco aen aor aba ali ale ach ast atw ats n stt nf mem ((rfZ n nf sl kd fi V Pl Se Li Od Bg).2.2.2.1) 0 ((rfZ n nf sl kd fi V Pl Se Li Od Bg).2.2.2.2) tp 0 V Bd Se Co En F k (by first | assumption | omega) (by first | assumption | omega) (by first | assumption | omega) (by first | assumption | omega) (by first | assumption | omega) (by first | assumption | omega) (by first | assumption | omega) (by first | assumption | omega) (by omega) H.size) mv_Mo_169 ⟨rfl, rfl⟩ ⟨Nat.le_of_ble_eq_true rfl, Nat.le_of_ble_eq_true rfl⟩ w [0, 1, 7, 3, 8, 9, 10] [2, 4, 5, 6, 11, 12] rfl rfl (by decide) (by decide) (by decide) 0 rfl rfl rfl rfl hl.1 rfl (Nat.le_of_ble_eq_true rfl) dMo_support_29 ⟨Nat.le_of_ble_eq_true rfl, Nat.le_of_ble_eq_true rfl⟩ (fun u2 H locs hu2 w => ?_)
          have w := w.eq (ws' := [(apl, zI G 12 (fun j => mI (Pl j))), (aor, zI G 12 (fun j => nI (((rfZ n nf sl kd fi V Pl Se Li Od Bg).2.1) j))), (aba, zI G 12 (fun j => nI (((rfZ n nf sl kd fi V Pl Se Li Od Bg).2.2.1) j))), (ali, zI G 12 (fun j => nI (((rfZ n nf sl kd fi V Pl Se Li Od Bg).1) j))), (atw, zL G 25 (fun j => lN (Tw j))), (ats, zI G 25 (fun j => nI (Ts j))), (m0, zO 7 [.int (nI n), .ref av, .ref ab, .ref apl, .int (nI stt), .int (nI nf), .ref ase, .ref aco, .ref aen, .int (nI mem), .int (nI ((rfZ n nf sl kd fi V Pl Se Li Od Bg).2.2.2.1)), .int (nI 0), .ref aor, .ref aba, .int (nI ((rfZ n nf sl kd fi V Pl Se Li Od Bg).2.2.2.2)), .ref ali, .ref ale, .ref ach, .ref ast, .ref atw, .ref ats, .int (nI tp), .int (nI 0)]), (av, zI G 12 (fun j => nI (V j))), (ab, zI G 12 (fun j => mI (Bd j))), (ase, zI G 16 (fun j => nI (Se j))), (aco, zI G 16 (fun j => nI (Co j))), (aen, zI G 4096 (fun j => nI (En j))), (ast, zI G 12 (fun j => nI ((rowF F (valF V n k) n) j)))]) rfl
          refine W.eq (g2 := F0 m 32 ls [.long (lN (wtM V Bd Se Co En n nf k))]) rfl ?_
          have hwb : wtM V Bd Se Co En n nf k ≤ 33232930569601 := wtM_le hEn hCo
          refine lv_lconst (v := lN 0) hx hb dMo_support_32 (by decide) ?_
          refine W.lcmp hx hb dMo_support_33 ?_
          refine z_lcleN (tgt := 43) hx hb (by omega) (by omega) dMo_support_34 (by decide) (fun c34 => ?_) (fun c34 => ?_)
          · skip
            refine lv_iload_n hx hb dMo_support_43 rfl (lv_at hl 1 rfl) ?_
            refine lv_istore_n (lv' := [(1, .int (nI t)), (2, .int (nI k)), (0, .ref m0)]) hx hb dMo_support_44 rfl hl (by decide) rfl (fun ls hl => ?_)
            refine z_iinc (d := 1) (lv' := [(2, .int (nI (k + 1))), (1, .int (nI t)), (0, .ref m0)]) hx hb dMo_support_45 hl (k := 1) rfl (by decide) (by decide) rfl (fun ls hl => ?_)
            refine lv_goto (tgt := 19) hx hb dMo_support_48 (by decide) ?_
            refine ih19 (k + 1) _ (rowF F (valF V n k) n) ?_ ?_ ?_ _ _ (w.perm [6, 7, 0, 9, 1, 2, 3, 8, 10, 11, 12, 4, 5] (by decide) rfl) ls (lv_sub hl [0, 1, 2] rfl)
            · omega
            · first | (rw [cnF_0 (by omega), ht]; done) | (rw [cnF_1 (by omega), ht])
            · omega
          · skip
            refine lv_iload_n hx hb dMo_support_37 rfl (lv_at hl 1 rfl) ?_
            refine lv_iconst (v := (nI 1)) hx hb dMo_support_38 (by decide) ?_
            refine z_addN hx hb dMo_support_39 ?_
            refine lv_goto (tgt := 44) hx hb dMo_support_40 (by decide) ?_
            refine lv_istore_n (lv' := [(1, .int (nI (t + 1))), (2, .int (nI k)), (0, .ref m0)]) hx hb dMo_support_44 rfl hl (by decide) rfl (fun ls hl => ?_)
            refine z_iinc (d := 1) (lv' := [(2, .int (nI (k + 1))), (1, .int (nI (t + 1))), (0, .ref m0)]) hx hb dMo_support_45 hl (k := 1) rfl (by decide) (by decide) rfl (fun ls hl => ?_)
            refine lv_goto (tgt := 19) hx hb dMo_support_48 (by decide) ?_
            refine ih19 (k + 1) (t + 1) (rowF F (valF V n k) n) ?_ ?_ ?_ _ _ (w.perm [6, 7, 0, 9, 1, 2, 3, 8, 10, 11, 12, 4, 5] (by decide) rfl) ls (lv_sub hl [0, 1, 2] rfl)
            · omega
            · first | (rw [cnF_0 (by omega), ht]; done) | (rw [cnF_1 (by omega), ht])
            · omega
    refine L19 ((stt - 0) + 1) 0 0 Sx ?_ ?_ ?_ _ _ (w.perm [6, 7, 8, 9, 10, 11, 12, 0, 1, 2, 3, 4, 5] (by decide) rfl) ls (lv_sub hl [0, 1, 2] rfl)
    · omega
    · rfl
    · exact Nat.lt_succ_self _
  · skip
    refine lv_bipush (v := (-4)) hx hb dMo_support_12 (by decide) ?_
    have w := w.perm (ws' := [(m0, zO 7 [.int (nI n), .ref av, .ref ab, .ref apl, .int (nI stt), .int (nI nf), .ref ase, .ref aco, .ref aen, .int (nI mem), .int (nI ((rfZ n nf sl kd fi V Pl Se Li Od Bg).2.2.2.1)), .int (nI 0), .ref aor, .ref aba, .int (nI ((rfZ n nf sl kd fi V Pl Se Li Od Bg).2.2.2.2)), .ref ali, .ref ale, .ref ach, .ref ast, .ref atw, .ref ats, .int (nI tp), .int (nI 0)]), (av, zI G 12 (fun j => nI (V j))), (apl, zI G 12 (fun j => mI (Pl j))), (ase, zI G 16 (fun j => nI (Se j))), (aor, zI G 12 (fun j => nI (((rfZ n nf sl kd fi V Pl Se Li Od Bg).2.1) j))), (aba, zI G 12 (fun j => nI (((rfZ n nf sl kd fi V Pl Se Li Od Bg).2.2.1) j))), (ali, zI G 12 (fun j => nI (((rfZ n nf sl kd fi V Pl Se Li Od Bg).1) j))), (ab, zI G 12 (fun j => mI (Bd j))), (aco, zI G 16 (fun j => nI (Co j))), (aen, zI G 4096 (fun j => nI (En j))), (ast, zI G 12 (fun j => nI (Sx j))), (atw, zL G 25 (fun j => lN (Tw j))), (ats, zI G 25 (fun j => nI (Ts j)))]) [6, 7, 8, 9, 10, 11, 12, 0, 1, 2, 3, 4, 5] (by decide) rfl
    exact hret _ _ _ _ (((rfZ n nf sl kd fi V Pl Se Li Od Bg).1, (rfZ n nf sl kd fi V Pl Se Li Od Bg).2.1, (rfZ n nf sl kd fi V Pl Se Li Od Bg).2.2.1, ((rfZ n nf sl kd fi V Pl Se Li Od Bg).2.2.2.1), ((rfZ n nf sl kd fi V Pl Se Li Od Bg).2.2.2.2), 0), Sx, Tw, Ts, tp) _ _ w (rfl) (⟨(oS_b hn hSe hLi hOd hBg), hTw, hTs, htp⟩) dMo_support_14 (by rw [zif_t (show tmP n nf mem V Pl Se (Li, Od, Bg, kd, fi, sl) from c9)])

def rm_Mo_among : Room := { frames := 5, cells := 0, slots := 0, locals := 220 }
set_option maxHeartbeats 4000000 in
set_option maxRecDepth 100000 in
theorem c_Mo_among (l : Launch) (G : zG) (m0 av ab apl ase aco aen aor aba ali ale ach ast atw ats : Nat) (n stt nf mem kd sl fi tp th : Nat) (V Pl Se Od Bg Li Bd Co En Sx Tw Ts : Nat → Nat) (x y : Int32) (hn : n ≤ 12) (hnf : nf ≤ 16) (hV : ∀ j, V j ≤ 4) (hSe : ∀ i, Se i < 4096) (hLi : ∀ i, Li i < 4096) (hBg : ∀ i, Bg i < 4096) (hOd : ∀ i, Od i < 12) (hsl : sl ≤ 1) (hmem : mem ≤ 65536) (hV0 : ∀ j, j < n → 0 < V j ∧ V j ≤ 4) (hC4 : ∀ f, f < nf → cellsF V (Se f) n ≤ 256) (hEn : ∀ i, En i ≤ 7) (hCo : sumF Co nf ≤ 16) (hBd : ∀ i, Bd i ≤ 4) (hst : stt ≤ 65536) (hTw : ∀ i, Tw i ≤ 33232930569601) (hTs : ∀ i, Ts i ≤ 65536) (htp : tp ≤ 24) (sz : Nat) : Met l yMo_among (.code yMo_among cMo_among 5 (some .int) :: zT) rm_Mo_among (zPw G [.ref m0, .int x, .int y] [(m0, zO 7 [.int (nI n), .ref av, .ref ab, .ref apl, .int (nI stt), .int (nI nf), .ref ase, .ref aco, .ref aen, .int (nI mem), .int (nI kd), .int (nI sl), .ref aor, .ref aba, .int (nI fi), .ref ali, .ref ale, .ref ach, .ref ast, .ref atw, .ref ats, .int (nI tp), .int (nI th)]), (av, zI G 12 (fun j => nI (V j))), (apl, zI G 12 (fun j => mI (Pl j))), (ase, zI G 16 (fun j => nI (Se j))), (aor, zI G 12 (fun j => nI (Od j))), (aba, zI G 12 (fun j => nI (Bg j))), (ali, zI G 12 (fun j => nI (Li j))), (ab, zI G 12 (fun j => mI (Bd j))), (aco, zI G 16 (fun j => nI (Co j))), (aen, zI G 4096 (fun j => nI (En j))), (ast, zI G 12 (fun j => nI (Sx j))), (atw, zL G 25 (fun j => lN (Tw j))), (ats, zI G 25 (fun j => nI (Ts j)))] sz) (zQ (S := fcT) G (fun u => some (.int (zif (knP x n) (zif (inZ y.toInt64 (lN 0) (mI (V (tn x))).toInt64) (zif (tmP n nf mem V Pl Se (Li, Od, Bg, kd, fi, sl)) (-4) (nI (cnF (whF (wtM V Bd Se Co En n nf) (fun k => valF V n k (tn x)) (tn y)) stt))) (-2)) (-1)))) (fun u => [(m0, zO 7 [.int (nI n), .ref av, .ref ab, .ref apl, .int (nI stt), .int (nI nf), .ref ase, .ref aco, .ref aen, .int (nI mem), .int (nI u.1.2.2.2.1), .int (nI u.1.2.2.2.2.2), .ref aor, .ref aba, .int (nI u.1.2.2.2.2.1), .ref ali, .ref ale, .ref ach, .ref ast, .ref atw, .ref ats, .int (nI u.2.2.2.2), .int (nI 0)]), (av, zI G 12 (fun j => nI (V j))), (apl, zI G 12 (fun j => mI (Pl j))), (ase, zI G 16 (fun j => nI (Se j))), (aor, zI G 12 (fun j => nI (u.1.2.1 j))), (aba, zI G 12 (fun j => nI (u.1.2.2.1 j))), (ali, zI G 12 (fun j => nI (u.1.1 j))), (ab, zI G 12 (fun j => mI (Bd j))), (aco, zI G 16 (fun j => nI (Co j))), (aen, zI G 4096 (fun j => nI (En j))), (ast, zI G 12 (fun j => nI (u.2.1 j))), (atw, zL G 25 (fun j => lN (u.2.2.1 j))), (ats, zI G 25 (fun j => nI (u.2.2.2.1 j)))]) (va_A [(m0, zO 7 [.int (nI n), .ref av, .ref ab, .ref apl, .int (nI stt), .int (nI nf), .ref ase, .ref aco, .ref aen, .int (nI mem), .int (nI kd), .int (nI sl), .ref aor, .ref aba, .int (nI fi), .ref ali, .ref ale, .ref ach, .ref ast, .ref atw, .ref ats, .int (nI tp), .int (nI th)]), (av, zI G 12 (fun j => nI (V j))), (apl, zI G 12 (fun j => mI (Pl j))), (ase, zI G 16 (fun j => nI (Se j))), (aor, zI G 12 (fun j => nI (Od j))), (aba, zI G 12 (fun j => nI (Bg j))), (ali, zI G 12 (fun j => nI (Li j))), (ab, zI G 12 (fun j => mI (Bd j))), (aco, zI G 16 (fun j => nI (Co j))), (aen, zI G 4096 (fun j => nI (En j))), (ast, zI G 12 (fun j => nI (Sx j))), (atw, zL G 25 (fun j => lN (Tw j))), (ats, zI G 25 (fun j => nI (Ts j)))] sz) (fun u => fcP n nf V Pl Se (Li, Od, Bg, kd, fi, sl) u)) 0 0 (va_A [(m0, zO 7 [.int (nI n), .ref av, .ref ab, .ref apl, .int (nI stt), .int (nI nf), .ref ase, .ref aco, .ref aen, .int (nI mem), .int (nI kd), .int (nI sl), .ref aor, .ref aba, .int (nI fi), .ref ali, .ref ale, .ref ach, .ref ast, .ref atw, .ref ats, .int (nI tp), .int (nI th)]), (av, zI G 12 (fun j => nI (V j))), (apl, zI G 12 (fun j => mI (Pl j))), (ase, zI G 16 (fun j => nI (Se j))), (aor, zI G 12 (fun j => nI (Od j))), (aba, zI G 12 (fun j => nI (Bg j))), (ali, zI G 12 (fun j => nI (Li j))), (ab, zI G 12 (fun j => mI (Bd j))), (aco, zI G 16 (fun j => nI (Co j))), (aen, zI G 4096 (fun j => nI (En j))), (ast, zI G 12 (fun j => nI (Sx j))), (atw, zL G 25 (fun j => lN (Tw j))), (ats, zI G 25 (fun j => nI (Ts j)))] sz) := by
  refine z_metWi (by decide) (Nat.le_of_ble_eq_true rfl) (fun p e s m args below meth c ls A Q Sf hnm w hl hret => ?_)
  obtain ⟨H, hH⟩ : ∃ H, H = s.heap := ⟨_, rfl⟩
  obtain ⟨locs, hlo⟩ : ∃ L : List Loc, L = [] := ⟨_, rfl⟩
  rw [← hH, ← hlo] at w
  rw [← hH, ← hlo]
  clear hH hlo
  have Sf : CallFix p m c cMo_among 5 s args zT RMo := Sf
  have hx := Sf.1
  have hb := Sf.2.1
  have hown := Sf.2.2.2.1
  have hts := Sf.2.2.2.2
  have hl : lv_has ls 5 [(0, .ref m0), (1, .int x), (2, .int y)] := hl
  refine lv_aload_n hx hb dMo_among_0 rfl (lv_at hl 0 rfl) ?_
  refine lv_iconst (v := (nI 0)) hx hb dMo_among_1 (by decide) ?_
  refine pf_Mo_65 Sf w 0 rfl rfl rfl (Nat.le_of_ble_eq_true rfl) (ws' := [(m0, zO 7 [.int (nI n), .ref av, .ref ab, .ref apl, .int (nI stt), .int (nI nf), .ref ase, .ref aco, .ref aen, .int (nI mem), .int (nI kd), .int (nI sl), .ref aor, .ref aba, .int (nI fi), .ref ali, .ref ale, .ref ach, .ref ast, .ref atw, .ref ats, .int (nI tp), .int (nI 0)]), (av, zI G 12 (fun j => nI (V j))), (apl, zI G 12 (fun j => mI (Pl j))), (ase, zI G 16 (fun j => nI (Se j))), (aor, zI G 12 (fun j => nI (Od j))), (aba, zI G 12 (fun j => nI (Bg j))), (ali, zI G 12 (fun j => nI (Li j))), (ab, zI G 12 (fun j => mI (Bd j))), (aco, zI G 16 (fun j => nI (Co j))), (aen, zI G 4096 (fun j => nI (En j))), (ast, zI G 12 (fun j => nI (Sx j))), (atw, zL G 25 (fun j => lN (Tw j))), (ats, zI G 25 (fun j => nI (Ts j)))]) rfl dMo_among_2 (fun H locs w => ?_)
  refine lv_aload_n hx hb dMo_among_5 rfl (lv_at hl 0 rfl) ?_
  refine lv_iload_n hx hb dMo_among_6 rfl (lv_at hl 1 rfl) ?_
  refine z_rV (As := [.int x]) (rest := []) Sf (c_Mo_isName l G m0 av ab apl ase aco aen aor aba ali ale ach ast atw ats n stt nf mem kd sl fi tp 0 x (by first | assumption | omega)) mv_Mo_104 ⟨rfl, rfl⟩ ⟨Nat.le_of_ble_eq_true rfl, Nat.le_of_ble_eq_true rfl⟩ w.1 [0] rfl 0 rfl rfl rfl rfl hl.1 rfl (Nat.le_of_ble_eq_true rfl) dMo_among_7 ⟨Nat.le_of_ble_eq_true rfl, Nat.le_of_ble_eq_true rfl⟩ ?_
  refine z_ifneB (tgt := 15) hx hb dMo_among_10 (by decide) (fun c10 => ?_) (fun c10 => ?_)
  · skip
    obtain ⟨j, hj, rfl⟩ := kn_nat (by omega) c10
    have htn : tn (nI j) = j := tn_nI (by omega)
    have hvj := hV j
    refine lv_iload_n hx hb dMo_among_15 rfl (lv_at hl 2 rfl) ?_
    refine lv_i2l hx hb dMo_among_16 rfl ?_
    refine lv_lconst (v := lN 0) hx hb dMo_among_17 (by decide) ?_
    refine lv_aload_n hx hb dMo_among_18 rfl (lv_at hl 0 rfl) ?_
    refine gf_Mo_7 Sf w.1 0 rfl rfl dMo_among_19 ?_
    refine lv_iload_n hx hb dMo_among_22 rfl (lv_at hl 1 rfl) ?_
    refine z_iald hx hb w.1 1 (k := j) rfl (by omega) (by omega) dMo_among_23 ?_
    refine lv_iconst (v := (nI 1)) hx hb dMo_among_24 (by decide) ?_
    refine z_subM hx hb dMo_among_25 ?_
    refine lv_i2l hx hb dMo_among_26 rfl ?_
    refine z_rS (As := [.long y.toInt64, .long (lN 0), .long ((mI (V j)).toInt64)]) (rest := []) Sf (c_Mo_in l G y.toInt64 (lN 0) ((mI (V j)).toInt64) ) mv_Mo_71 ⟨rfl, rfl⟩ ⟨Nat.le_of_ble_eq_true rfl, Nat.le_of_ble_eq_true rfl⟩ w.1 [] rfl rfl hl.1 rfl (Nat.le_of_ble_eq_true rfl) dMo_among_27 ⟨Nat.le_of_ble_eq_true rfl, Nat.le_of_ble_eq_true rfl⟩ ?_
    refine z_ifneB (tgt := 36) hx hb dMo_among_30 (by decide) (fun c30 => ?_) (fun c30 => ?_)
    · skip
      have c30b := c30
      obtain ⟨q, hq, rfl⟩ := in_nat1 (by omega) c30
      have htq : tn (nI q) = q := tn_nI (by omega)
      refine lv_aload_n hx hb dMo_among_36 rfl (lv_at hl 0 rfl) ?_
      refine z_wV (wr := [(ab, zI G 12 (fun j => mI (Bd j))), (aco, zI G 16 (fun j => nI (Co j))), (aen, zI G 4096 (fun j => nI (En j))), (ast, zI G 12 (fun j => nI (Sx j))), (atw, zL G 25 (fun j => lN (Tw j))), (ats, zI G 25 (fun j => nI (Ts j)))]) (As := []) (rest := []) Sf (c_Mo_isTooMuch l G m0 av ab apl ase aco aen aor aba ali ale ach ast atw ats n stt nf mem kd sl fi tp 0 V Pl Se Od Bg Li (by first | assumption | omega) (by first | assumption | omega) (by first | assumption | omega) (by first | assumption | omega) (by first | assumption | omega) (by first | assumption | omega) (by first | assumption | omega) (by first | assumption | omega) (by first | assumption | omega) H.size) mv_Mo_173 ⟨rfl, rfl⟩ ⟨Nat.le_of_ble_eq_true rfl, Nat.le_of_ble_eq_true rfl⟩ w [0, 1, 2, 3, 4, 5, 6] [7, 8, 9, 10, 11, 12] rfl rfl (by decide) (by decide) (by decide) 0 rfl rfl rfl rfl hl.1 rfl (Nat.le_of_ble_eq_true rfl) dMo_among_37 ⟨Nat.le_of_ble_eq_true rfl, Nat.le_of_ble_eq_true rfl⟩ (fun u1 H locs hu1 w => ?_)
      have w := w.eq (ws' := [(ab, zI G 12 (fun j => mI (Bd j))), (aco, zI G 16 (fun j => nI (Co j))), (aen, zI G 4096 (fun j => nI (En j))), (ast, zI G 12 (fun j => nI (Sx j))), (atw, zL G 25 (fun j => lN (Tw j))), (ats, zI G 25 (fun j => nI (Ts j))), (m0, zO 7 [.int (nI n), .ref av, .ref ab, .ref apl, .int (nI stt), .int (nI nf), .ref ase, .ref aco, .ref aen, .int (nI mem), .int (nI ((rfZ n nf sl kd fi V Pl Se Li Od Bg).2.2.2.1)), .int (nI 0), .ref aor, .ref aba, .int (nI ((rfZ n nf sl kd fi V Pl Se Li Od Bg).2.2.2.2)), .ref ali, .ref ale, .ref ach, .ref ast, .ref atw, .ref ats, .int (nI tp), .int (nI 0)]), (av, zI G 12 (fun j => nI (V j))), (apl, zI G 12 (fun j => mI (Pl j))), (ase, zI G 16 (fun j => nI (Se j))), (aor, zI G 12 (fun j => nI (((rfZ n nf sl kd fi V Pl Se Li Od Bg).2.1) j))), (aba, zI G 12 (fun j => nI (((rfZ n nf sl kd fi V Pl Se Li Od Bg).2.2.1) j))), (ali, zI G 12 (fun j => nI (((rfZ n nf sl kd fi V Pl Se Li Od Bg).1) j)))]) rfl
      refine W.eq (g2 := F0 m 40 ls [.int (bI (mem < mcF V (rfZ n nf sl kd fi V Pl Se Li Od Bg).2.2.1 n n))]) rfl ?_
      refine z_ifeqB (tgt := 46) hx hb dMo_among_40 (by decide) (fun c40 => ?_) (fun c40 => ?_)
      · skip
        refine lv_iconst (v := (nI 0)) hx hb dMo_among_46 (by decide) ?_
        refine lv_istore_n (lv' := [(3, .int (nI 0)), (0, .ref m0), (1, .int (nI j)), (2, .int (nI q))]) hx hb dMo_among_47 rfl hl (by decide) rfl (fun ls hl => ?_)
        refine lv_iconst (v := (nI 0)) hx hb dMo_among_48 (by decide) ?_
        refine lv_istore (lv' := [(4, .int (nI 0)), (3, .int (nI 0)), (0, .ref m0), (1, .int (nI j)), (2, .int (nI q))]) hx hb dMo_among_49 hl (by decide) rfl (fun ls hl => ?_)
        have L51 : ∀ (fu51 : Nat) (k t : Nat) (F : Nat → Nat), (k ≤ stt) → (t = cnF (whF (wtM V Bd Se Co En n nf) (fun k => valF V n k j) q) k) → (stt - k) < fu51 → ∀ (H : Heap) (locs : List Loc), zw G A s [(m0, zO 7 [.int (nI n), .ref av, .ref ab, .ref apl, .int (nI stt), .int (nI nf), .ref ase, .ref aco, .ref aen, .int (nI mem), .int (nI ((rfZ n nf sl kd fi V Pl Se Li Od Bg).2.2.2.1)), .int (nI 0), .ref aor, .ref aba, .int (nI ((rfZ n nf sl kd fi V Pl Se Li Od Bg).2.2.2.2)), .ref ali, .ref ale, .ref ach, .ref ast, .ref atw, .ref ats, .int (nI tp), .int (nI 0)]), (av, zI G 12 (fun j => nI (V j))), (apl, zI G 12 (fun j => mI (Pl j))), (ase, zI G 16 (fun j => nI (Se j))), (aor, zI G 12 (fun j => nI (((rfZ n nf sl kd fi V Pl Se Li Od Bg).2.1) j))), (aba, zI G 12 (fun j => nI (((rfZ n nf sl kd fi V Pl Se Li Od Bg).2.2.1) j))), (ali, zI G 12 (fun j => nI (((rfZ n nf sl kd fi V Pl Se Li Od Bg).1) j))), (ab, zI G 12 (fun j => mI (Bd j))), (aco, zI G 16 (fun j => nI (Co j))), (aen, zI G 4096 (fun j => nI (En j))), (ast, zI G 12 (fun j => nI (F j))), (atw, zL G 25 (fun j => lN (Tw j))), (ats, zI G 25 (fun j => nI (Ts j)))] H locs → ∀ (ls : Array Slot), lv_has ls 5 [(4, .int (nI k)), (3, .int (nI t)), (0, .ref m0), (1, .int (nI j)), (2, .int (nI q))] → W p l e rm_Mo_among s m args below meth c H locs 0 0 Q (F0 m 51 ls []) := by
          intro fu51
          induction fu51 with
          | zero =>
            intro k t F hk ht hm51
            exact absurd hm51 (Nat.not_lt_zero _)
          | succ fu51 ih51 =>
            intro k t F hk ht hm51 H locs w ls hl
            refine lv_iload hx hb dMo_among_51 (lv_at hl 0 rfl) ?_
            refine lv_aload_n hx hb dMo_among_53 rfl (lv_at hl 2 rfl) ?_
            refine gf_Mo_58 Sf w.1 0 rfl rfl dMo_among_54 ?_
            refine z_icmpge (tgt := 95) hx hb (by omega) (by omega) dMo_among_57 (by decide) (fun c57 => ?_) (fun c57 => ?_)
            · skip
              refine lv_iload_n hx hb dMo_among_95 rfl (lv_at hl 1 rfl) ?_
              exact hret _ _ _ _ (((rfZ n nf sl kd fi V Pl Se Li Od Bg).1, (rfZ n nf sl kd fi V Pl Se Li Od Bg).2.1, (rfZ n nf sl kd fi V Pl Se Li Od Bg).2.2.1, ((rfZ n nf sl kd fi V Pl Se Li Od Bg).2.2.2.1), ((rfZ n nf sl kd fi V Pl Se Li Od Bg).2.2.2.2), 0), F, Tw, Ts, tp) _ _ w (rfl) (⟨(oS_b hn hSe hLi hOd hBg), hTw, hTs, htp⟩) dMo_among_96 (by rw [zif_t c10, zif_t (by rw [htn]; exact c30b), zif_f (show ¬ tmP n nf mem V Pl Se (Li, Od, Bg, kd, fi, sl) from c40), ht, show k = stt by omega, htn, htq])
            · skip
              refine lv_aload_n hx hb dMo_among_60 rfl (lv_at hl 2 rfl) ?_
              refine lv_iload hx hb dMo_among_61 (lv_at hl 0 rfl) ?_
              refine z_wV (wr := [(apl, zI G 12 (fun j => mI (Pl j))), (aor, zI G 12 (fun j => nI (((rfZ n nf sl kd fi V Pl Se Li Od Bg).2.1) j))), (aba, zI G 12 (fun j => nI (((rfZ n nf sl kd fi V Pl Se Li Od Bg).2.2.1) j))), (ali, zI G 12 (fun j => nI (((rfZ n nf sl kd fi V Pl Se Li Od Bg).1) j))), (atw, zL G 25 (fun j => lN (Tw j))), (ats, zI G 25 (fun j => nI (Ts j)))]) (As := [.int (nI k)]) (rest := []) Sf (c_Mo_weigh l G m0 av ab apl ase aco aen aor aba ali ale ach ast atw ats n stt nf mem ((rfZ n nf sl kd fi V Pl Se Li Od Bg).2.2.2.1) 0 ((rfZ n nf sl kd fi V Pl Se Li Od Bg).2.2.2.2) tp 0 V Bd Se Co En F k (by first | assumption | omega) (by first | assumption | omega) (by first | assumption | omega) (by first | assumption | omega) (by first | assumption | omega) (by first | assumption | omega) (by first | assumption | omega) (by first | assumption | omega) (by omega) H.size) mv_Mo_169 ⟨rfl, rfl⟩ ⟨Nat.le_of_ble_eq_true rfl, Nat.le_of_ble_eq_true rfl⟩ w [0, 1, 7, 3, 8, 9, 10] [2, 4, 5, 6, 11, 12] rfl rfl (by decide) (by decide) (by decide) 0 rfl rfl rfl rfl hl.1 rfl (Nat.le_of_ble_eq_true rfl) dMo_among_63 ⟨Nat.le_of_ble_eq_true rfl, Nat.le_of_ble_eq_true rfl⟩ (fun u2 H locs hu2 w => ?_)
              have w := w.eq (ws' := [(apl, zI G 12 (fun j => mI (Pl j))), (aor, zI G 12 (fun j => nI (((rfZ n nf sl kd fi V Pl Se Li Od Bg).2.1) j))), (aba, zI G 12 (fun j => nI (((rfZ n nf sl kd fi V Pl Se Li Od Bg).2.2.1) j))), (ali, zI G 12 (fun j => nI (((rfZ n nf sl kd fi V Pl Se Li Od Bg).1) j))), (atw, zL G 25 (fun j => lN (Tw j))), (ats, zI G 25 (fun j => nI (Ts j))), (m0, zO 7 [.int (nI n), .ref av, .ref ab, .ref apl, .int (nI stt), .int (nI nf), .ref ase, .ref aco, .ref aen, .int (nI mem), .int (nI ((rfZ n nf sl kd fi V Pl Se Li Od Bg).2.2.2.1)), .int (nI 0), .ref aor, .ref aba, .int (nI ((rfZ n nf sl kd fi V Pl Se Li Od Bg).2.2.2.2)), .ref ali, .ref ale, .ref ach, .ref ast, .ref atw, .ref ats, .int (nI tp), .int (nI 0)]), (av, zI G 12 (fun j => nI (V j))), (ab, zI G 12 (fun j => mI (Bd j))), (ase, zI G 16 (fun j => nI (Se j))), (aco, zI G 16 (fun j => nI (Co j))), (aen, zI G 4096 (fun j => nI (En j))), (ast, zI G 12 (fun j => nI ((rowF F (valF V n k) n) j)))]) rfl
              refine W.eq (g2 := F0 m 66 ls [.long (lN (wtM V Bd Se Co En n nf k))]) rfl ?_
              have hwb : wtM V Bd Se Co En n nf k ≤ 33232930569601 := wtM_le hEn hCo
              have hrj : rowF F (valF V n k) n j = valF V n k j := rowF_lt hj
              have hvk := valF_lt (V := V) (n := n) (x := k) (hV0 j hj).1
              refine lv_lconst (v := lN 0) hx hb dMo_among_66 (by decide) ?_
              refine W.lcmp hx hb dMo_among_67 ?_
              refine z_lcleN (tgt := 87) hx hb (by omega) (by omega) dMo_among_68 (by decide) (fun c68 => ?_) (fun c68 => ?_)
              · skip
                have hwh : whF (wtM V Bd Se Co En n nf) (fun k => valF V n k j) q k = 0 := by
                  unfold whF
                  split
                  · omega
                  · rfl
                refine lv_iload_n hx hb dMo_among_87 rfl (lv_at hl 1 rfl) ?_
                refine lv_istore_n (lv' := [(3, .int (nI t)), (4, .int (nI k)), (0, .ref m0), (1, .int (nI j)), (2, .int (nI q))]) hx hb dMo_among_88 rfl hl (by decide) rfl (fun ls hl => ?_)
                refine z_iinc (d := 1) (lv' := [(4, .int (nI (k + 1))), (3, .int (nI t)), (0, .ref m0), (1, .int (nI j)), (2, .int (nI q))]) hx hb dMo_among_89 hl (k := 1) rfl (by decide) (by decide) rfl (fun ls hl => ?_)
                refine lv_goto (tgt := 51) hx hb dMo_among_92 (by decide) ?_
                refine ih51 (k + 1) _ (rowF F (valF V n k) n) ?_ ?_ ?_ _ _ (w.perm [6, 7, 0, 9, 1, 2, 3, 8, 10, 11, 12, 4, 5] (by decide) rfl) ls (lv_sub hl [0, 1, 2, 3, 4] rfl)
                · omega
                · first | (rw [cnF_0 hwh, ht]; done) | (rw [cnF_1 (by rw [hwh]; omega), ht])
                · omega
              · skip
                refine lv_aload_n hx hb dMo_among_71 rfl (lv_at hl 2 rfl) ?_
                refine gf_Mo_44 Sf w.1 6 rfl rfl dMo_among_72 ?_
                refine lv_iload_n hx hb dMo_among_75 rfl (lv_at hl 3 rfl) ?_
                refine z_iald hx hb w.1 12 (k := j) rfl (by omega) (by omega) dMo_among_76 ?_
                refine lv_iload_n hx hb dMo_among_77 rfl (lv_at hl 4 rfl) ?_
                refine z_icmpne (tgt := 87) hx hb (by omega) (by omega) dMo_among_78 (by decide) (fun c78 => ?_) (fun c78 => ?_)
                · skip
                  have hwh : whF (wtM V Bd Se Co En n nf) (fun k => valF V n k j) q k = 0 := whF_f (g := fun k => valF V n k j) (by show valF V n k j ≠ q; rw [← hrj]; exact c78)
                  refine lv_iload_n hx hb dMo_among_87 rfl (lv_at hl 1 rfl) ?_
                  refine lv_istore_n (lv' := [(3, .int (nI t)), (4, .int (nI k)), (0, .ref m0), (1, .int (nI j)), (2, .int (nI q))]) hx hb dMo_among_88 rfl hl (by decide) rfl (fun ls hl => ?_)
                  refine z_iinc (d := 1) (lv' := [(4, .int (nI (k + 1))), (3, .int (nI t)), (0, .ref m0), (1, .int (nI j)), (2, .int (nI q))]) hx hb dMo_among_89 hl (k := 1) rfl (by decide) (by decide) rfl (fun ls hl => ?_)
                  refine lv_goto (tgt := 51) hx hb dMo_among_92 (by decide) ?_
                  refine ih51 (k + 1) _ (rowF F (valF V n k) n) ?_ ?_ ?_ _ _ (w.perm [6, 7, 0, 9, 1, 2, 3, 8, 10, 11, 12, 4, 5] (by decide) rfl) ls (lv_sub hl [0, 1, 2, 3, 4] rfl)
                  · omega
                  · first | (rw [cnF_0 hwh, ht]; done) | (rw [cnF_1 (by rw [hwh]; omega), ht])
                  · omega
                · skip
                  have hwh : whF (wtM V Bd Se Co En n nf) (fun k => valF V n k j) q k = wtM V Bd Se Co En n nf k := whF_t (g := fun k => valF V n k j) (by show valF V n k j = q; rw [← hrj]; exact c78)
                  refine lv_iload_n hx hb dMo_among_81 rfl (lv_at hl 1 rfl) ?_
                  refine lv_iconst (v := (nI 1)) hx hb dMo_among_82 (by decide) ?_
                  refine z_addN hx hb dMo_among_83 ?_
                  refine lv_goto (tgt := 88) hx hb dMo_among_84 (by decide) ?_
                  refine lv_istore_n (lv' := [(3, .int (nI (t + 1))), (4, .int (nI k)), (0, .ref m0), (1, .int (nI j)), (2, .int (nI q))]) hx hb dMo_among_88 rfl hl (by decide) rfl (fun ls hl => ?_)
                  refine z_iinc (d := 1) (lv' := [(4, .int (nI (k + 1))), (3, .int (nI (t + 1))), (0, .ref m0), (1, .int (nI j)), (2, .int (nI q))]) hx hb dMo_among_89 hl (k := 1) rfl (by decide) (by decide) rfl (fun ls hl => ?_)
                  refine lv_goto (tgt := 51) hx hb dMo_among_92 (by decide) ?_
                  refine ih51 (k + 1) (t + 1) (rowF F (valF V n k) n) ?_ ?_ ?_ _ _ (w.perm [6, 7, 0, 9, 1, 2, 3, 8, 10, 11, 12, 4, 5] (by decide) rfl) ls (lv_sub hl [0, 1, 2, 3, 4] rfl)
                  · omega
                  · first | (rw [cnF_0 hwh, ht]; done) | (rw [cnF_1 (by rw [hwh]; omega), ht])
                  · omega
        refine L51 ((stt - 0) + 1) 0 0 Sx ?_ ?_ ?_ _ _ (w.perm [6, 7, 8, 9, 10, 11, 12, 0, 1, 2, 3, 4, 5] (by decide) rfl) ls (lv_sub hl [0, 1, 2, 3, 4] rfl)
        · omega
        · rfl
        · exact Nat.lt_succ_self _
      · skip
        refine lv_bipush (v := (-4)) hx hb dMo_among_43 (by decide) ?_
        have w := w.perm (ws' := [(m0, zO 7 [.int (nI n), .ref av, .ref ab, .ref apl, .int (nI stt), .int (nI nf), .ref ase, .ref aco, .ref aen, .int (nI mem), .int (nI ((rfZ n nf sl kd fi V Pl Se Li Od Bg).2.2.2.1)), .int (nI 0), .ref aor, .ref aba, .int (nI ((rfZ n nf sl kd fi V Pl Se Li Od Bg).2.2.2.2)), .ref ali, .ref ale, .ref ach, .ref ast, .ref atw, .ref ats, .int (nI tp), .int (nI 0)]), (av, zI G 12 (fun j => nI (V j))), (apl, zI G 12 (fun j => mI (Pl j))), (ase, zI G 16 (fun j => nI (Se j))), (aor, zI G 12 (fun j => nI (((rfZ n nf sl kd fi V Pl Se Li Od Bg).2.1) j))), (aba, zI G 12 (fun j => nI (((rfZ n nf sl kd fi V Pl Se Li Od Bg).2.2.1) j))), (ali, zI G 12 (fun j => nI (((rfZ n nf sl kd fi V Pl Se Li Od Bg).1) j))), (ab, zI G 12 (fun j => mI (Bd j))), (aco, zI G 16 (fun j => nI (Co j))), (aen, zI G 4096 (fun j => nI (En j))), (ast, zI G 12 (fun j => nI (Sx j))), (atw, zL G 25 (fun j => lN (Tw j))), (ats, zI G 25 (fun j => nI (Ts j)))]) [6, 7, 8, 9, 10, 11, 12, 0, 1, 2, 3, 4, 5] (by decide) rfl
        exact hret _ _ _ _ (((rfZ n nf sl kd fi V Pl Se Li Od Bg).1, (rfZ n nf sl kd fi V Pl Se Li Od Bg).2.1, (rfZ n nf sl kd fi V Pl Se Li Od Bg).2.2.1, ((rfZ n nf sl kd fi V Pl Se Li Od Bg).2.2.2.1), ((rfZ n nf sl kd fi V Pl Se Li Od Bg).2.2.2.2), 0), Sx, Tw, Ts, tp) _ _ w (rfl) (⟨(oS_b hn hSe hLi hOd hBg), hTw, hTs, htp⟩) dMo_among_45 (by rw [zif_t c10, zif_t (by rw [htn]; exact c30b), zif_t (show tmP n nf mem V Pl Se (Li, Od, Bg, kd, fi, sl) from c40)])
    · skip
      refine lv_bipush (v := (-2)) hx hb dMo_among_33 (by decide) ?_
      exact hret _ _ _ _ ((Li, Od, Bg, kd, fi, sl), Sx, Tw, Ts, tp) _ _ w (rfl) (⟨(oS_a hLi hOd hBg hsl), hTw, hTs, htp⟩) dMo_among_35 (by rw [zif_t c10, zif_f (by rw [htn]; exact c30)])
  · skip
    refine lv_iconst (v := (mI 0)) hx hb dMo_among_13 (by decide) ?_
    exact hret _ _ _ _ ((Li, Od, Bg, kd, fi, sl), Sx, Tw, Ts, tp) _ _ w (rfl) (⟨(oS_a hLi hOd hBg hsl), hTw, hTs, htp⟩) dMo_among_14 (by rw [zif_f c10, mI_0])

def rm_Mo_share : Room := { frames := 5, cells := 0, slots := 0, locals := 220 }
set_option maxHeartbeats 4000000 in
set_option maxRecDepth 100000 in
theorem c_Mo_share (l : Launch) (G : zG) (m0 av ab apl ase aco aen aor aba ali ale ach ast atw ats : Nat) (n stt nf mem kd sl fi tp th : Nat) (V Pl Se Od Bg Li Bd Co En Sx Tw Ts : Nat → Nat) (x y v : Int32) (hn : n ≤ 12) (hnf : nf ≤ 16) (hV : ∀ j, V j ≤ 4) (hSe : ∀ i, Se i < 4096) (hLi : ∀ i, Li i < 4096) (hBg : ∀ i, Bg i < 4096) (hOd : ∀ i, Od i < 12) (hsl : sl ≤ 1) (hmem : mem ≤ 65536) (hV0 : ∀ j, j < n → 0 < V j ∧ V j ≤ 4) (hC4 : ∀ f, f < nf → cellsF V (Se f) n ≤ 256) (hEn : ∀ i, En i ≤ 7) (hCo : sumF Co nf ≤ 16) (hBd : ∀ i, Bd i ≤ 4) (hst : stt ≤ 65536) (hTw : ∀ i, Tw i ≤ 33232930569601) (hTs : ∀ i, Ts i ≤ 65536) (htp : tp ≤ 24) (sz : Nat) : Met l yMo_share (.code yMo_share cMo_share 11 (some .long) :: zT) rm_Mo_share (zPw G [.ref m0, .int x, .int y, .int v] [(m0, zO 7 [.int (nI n), .ref av, .ref ab, .ref apl, .int (nI stt), .int (nI nf), .ref ase, .ref aco, .ref aen, .int (nI mem), .int (nI kd), .int (nI sl), .ref aor, .ref aba, .int (nI fi), .ref ali, .ref ale, .ref ach, .ref ast, .ref atw, .ref ats, .int (nI tp), .int (nI th)]), (av, zI G 12 (fun j => nI (V j))), (apl, zI G 12 (fun j => mI (Pl j))), (ase, zI G 16 (fun j => nI (Se j))), (aor, zI G 12 (fun j => nI (Od j))), (aba, zI G 12 (fun j => nI (Bg j))), (ali, zI G 12 (fun j => nI (Li j))), (ab, zI G 12 (fun j => mI (Bd j))), (aco, zI G 16 (fun j => nI (Co j))), (aen, zI G 4096 (fun j => nI (En j))), (ast, zI G 12 (fun j => nI (Sx j))), (atw, zL G 25 (fun j => lN (Tw j))), (ats, zI G 25 (fun j => nI (Ts j)))] sz) (zQ (S := fcT) G (fun u => some (.long (zif (stP x n) (zif (inZ y.toInt64 (lN 0) (mI (cellsF V (tn x) n)).toInt64 ∧ inZ v.toInt64 (lN 0) (lN 1)) (zif (tmP n nf mem V Pl Se (Li, Od, Bg, kd, fi, sl)) (-4) (zif (smF (wtM V Bd Se Co En n nf) stt = 0) (-3) (lN (zif (tn v = 0) (smF (whF (wtM V Bd Se Co En n nf) (fun k => nmF (valF V n k) V (tn x) n) (tn y)) stt) (smF (wtM V Bd Se Co En n nf) stt) / Nat.gcd (smF (wtM V Bd Se Co En n nf) stt) (smF (whF (wtM V Bd Se Co En n nf) (fun k => nmF (valF V n k) V (tn x) n) (tn y)) stt))))) (-2)) (-1)))) (fun u => [(m0, zO 7 [.int (nI n), .ref av, .ref ab, .ref apl, .int (nI stt), .int (nI nf), .ref ase, .ref aco, .ref aen, .int (nI mem), .int (nI u.1.2.2.2.1), .int (nI u.1.2.2.2.2.2), .ref aor, .ref aba, .int (nI u.1.2.2.2.2.1), .ref ali, .ref ale, .ref ach, .ref ast, .ref atw, .ref ats, .int (nI u.2.2.2.2), .int (nI 0)]), (av, zI G 12 (fun j => nI (V j))), (apl, zI G 12 (fun j => mI (Pl j))), (ase, zI G 16 (fun j => nI (Se j))), (aor, zI G 12 (fun j => nI (u.1.2.1 j))), (aba, zI G 12 (fun j => nI (u.1.2.2.1 j))), (ali, zI G 12 (fun j => nI (u.1.1 j))), (ab, zI G 12 (fun j => mI (Bd j))), (aco, zI G 16 (fun j => nI (Co j))), (aen, zI G 4096 (fun j => nI (En j))), (ast, zI G 12 (fun j => nI (u.2.1 j))), (atw, zL G 25 (fun j => lN (u.2.2.1 j))), (ats, zI G 25 (fun j => nI (u.2.2.2.1 j)))]) (va_A [(m0, zO 7 [.int (nI n), .ref av, .ref ab, .ref apl, .int (nI stt), .int (nI nf), .ref ase, .ref aco, .ref aen, .int (nI mem), .int (nI kd), .int (nI sl), .ref aor, .ref aba, .int (nI fi), .ref ali, .ref ale, .ref ach, .ref ast, .ref atw, .ref ats, .int (nI tp), .int (nI th)]), (av, zI G 12 (fun j => nI (V j))), (apl, zI G 12 (fun j => mI (Pl j))), (ase, zI G 16 (fun j => nI (Se j))), (aor, zI G 12 (fun j => nI (Od j))), (aba, zI G 12 (fun j => nI (Bg j))), (ali, zI G 12 (fun j => nI (Li j))), (ab, zI G 12 (fun j => mI (Bd j))), (aco, zI G 16 (fun j => nI (Co j))), (aen, zI G 4096 (fun j => nI (En j))), (ast, zI G 12 (fun j => nI (Sx j))), (atw, zL G 25 (fun j => lN (Tw j))), (ats, zI G 25 (fun j => nI (Ts j)))] sz) (fun u => fcP n nf V Pl Se (Li, Od, Bg, kd, fi, sl) u)) 0 0 (va_A [(m0, zO 7 [.int (nI n), .ref av, .ref ab, .ref apl, .int (nI stt), .int (nI nf), .ref ase, .ref aco, .ref aen, .int (nI mem), .int (nI kd), .int (nI sl), .ref aor, .ref aba, .int (nI fi), .ref ali, .ref ale, .ref ach, .ref ast, .ref atw, .ref ats, .int (nI tp), .int (nI th)]), (av, zI G 12 (fun j => nI (V j))), (apl, zI G 12 (fun j => mI (Pl j))), (ase, zI G 16 (fun j => nI (Se j))), (aor, zI G 12 (fun j => nI (Od j))), (aba, zI G 12 (fun j => nI (Bg j))), (ali, zI G 12 (fun j => nI (Li j))), (ab, zI G 12 (fun j => mI (Bd j))), (aco, zI G 16 (fun j => nI (Co j))), (aen, zI G 4096 (fun j => nI (En j))), (ast, zI G 12 (fun j => nI (Sx j))), (atw, zL G 25 (fun j => lN (Tw j))), (ats, zI G 25 (fun j => nI (Ts j)))] sz) := by
  refine z_metWl (by decide) (Nat.le_of_ble_eq_true rfl) (fun p e s m args below meth c ls A Q Sf hnm w hl hret => ?_)
  obtain ⟨H, hH⟩ : ∃ H, H = s.heap := ⟨_, rfl⟩
  obtain ⟨locs, hlo⟩ : ∃ L : List Loc, L = [] := ⟨_, rfl⟩
  rw [← hH, ← hlo] at w
  rw [← hH, ← hlo]
  clear hH hlo
  have Sf : CallFix p m c cMo_share 11 s args zT RMo := Sf
  have hx := Sf.1
  have hb := Sf.2.1
  have hown := Sf.2.2.2.1
  have hts := Sf.2.2.2.2
  have hl : lv_has ls 11 [(0, .ref m0), (1, .int x), (2, .int y), (3, .int v)] := hl
  refine lv_aload_n hx hb dMo_share_0 rfl (lv_at hl 0 rfl) ?_
  refine lv_iconst (v := (nI 0)) hx hb dMo_share_1 (by decide) ?_
  refine pf_Mo_65 Sf w 0 rfl rfl rfl (Nat.le_of_ble_eq_true rfl) (ws' := [(m0, zO 7 [.int (nI n), .ref av, .ref ab, .ref apl, .int (nI stt), .int (nI nf), .ref ase, .ref aco, .ref aen, .int (nI mem), .int (nI kd), .int (nI sl), .ref aor, .ref aba, .int (nI fi), .ref ali, .ref ale, .ref ach, .ref ast, .ref atw, .ref ats, .int (nI tp), .int (nI 0)]), (av, zI G 12 (fun j => nI (V j))), (apl, zI G 12 (fun j => mI (Pl j))), (ase, zI G 16 (fun j => nI (Se j))), (aor, zI G 12 (fun j => nI (Od j))), (aba, zI G 12 (fun j => nI (Bg j))), (ali, zI G 12 (fun j => nI (Li j))), (ab, zI G 12 (fun j => mI (Bd j))), (aco, zI G 16 (fun j => nI (Co j))), (aen, zI G 4096 (fun j => nI (En j))), (ast, zI G 12 (fun j => nI (Sx j))), (atw, zL G 25 (fun j => lN (Tw j))), (ats, zI G 25 (fun j => nI (Ts j)))]) rfl dMo_share_2 (fun H locs w => ?_)
  refine lv_aload_n hx hb dMo_share_5 rfl (lv_at hl 0 rfl) ?_
  refine lv_iload_n hx hb dMo_share_6 rfl (lv_at hl 1 rfl) ?_
  refine z_rV (As := [.int x]) (rest := []) Sf (c_Mo_isSet l G m0 av ab apl ase aco aen aor aba ali ale ach ast atw ats n stt nf mem kd sl fi tp 0 x (by first | assumption | omega)) mv_Mo_82 ⟨rfl, rfl⟩ ⟨Nat.le_of_ble_eq_true rfl, Nat.le_of_ble_eq_true rfl⟩ w.1 [0] rfl 0 rfl rfl rfl rfl hl.1 rfl (Nat.le_of_ble_eq_true rfl) dMo_share_7 ⟨Nat.le_of_ble_eq_true rfl, Nat.le_of_ble_eq_true rfl⟩ ?_
  refine z_ifneB (tgt := 17) hx hb dMo_share_10 (by decide) (fun c10 => ?_) (fun c10 => ?_)
  · skip
    obtain ⟨S, hS, rfl⟩ := st_nat hn c10
    have h4 : 2 ^ n ≤ 4096 := Nat.pow_le_pow_right (by decide) hn
    have htn : tn (nI S) = S := tn_nI (by omega)
    have hcb := cellsF_b hV S hn
    refine lv_iload_n hx hb dMo_share_17 rfl (lv_at hl 2 rfl) ?_
    refine lv_i2l hx hb dMo_share_18 rfl ?_
    refine lv_lconst (v := lN 0) hx hb dMo_share_19 (by decide) ?_
    refine lv_aload_n hx hb dMo_share_20 rfl (lv_at hl 0 rfl) ?_
    refine lv_iload_n hx hb dMo_share_21 rfl (lv_at hl 1 rfl) ?_
    refine z_rV (As := [.int (nI S)]) (rest := [.long (lN 0), .long y.toInt64]) Sf (c_Mo_cells l G m0 av ab apl ase aco aen aor aba ali ale ach ast atw ats n stt nf mem kd sl fi tp 0 V S (by first | assumption | omega) (by omega)) mv_Mo_97 ⟨rfl, rfl⟩ ⟨Nat.le_of_ble_eq_true rfl, Nat.le_of_ble_eq_true rfl⟩ w.1 [0, 1] rfl 0 rfl rfl rfl rfl hl.1 rfl (Nat.le_of_ble_eq_true rfl) dMo_share_22 ⟨Nat.le_of_ble_eq_true rfl, Nat.le_of_ble_eq_true rfl⟩ ?_
    refine lv_iconst (v := (nI 1)) hx hb dMo_share_25 (by decide) ?_
    refine z_subM hx hb dMo_share_26 ?_
    refine lv_i2l hx hb dMo_share_27 rfl ?_
    refine z_rS (As := [.long y.toInt64, .long (lN 0), .long ((mI (cellsF V S n)).toInt64)]) (rest := []) Sf (c_Mo_in l G y.toInt64 (lN 0) ((mI (cellsF V S n)).toInt64) ) mv_Mo_71 ⟨rfl, rfl⟩ ⟨Nat.le_of_ble_eq_true rfl, Nat.le_of_ble_eq_true rfl⟩ w.1 [] rfl rfl hl.1 rfl (Nat.le_of_ble_eq_true rfl) dMo_share_28 ⟨Nat.le_of_ble_eq_true rfl, Nat.le_of_ble_eq_true rfl⟩ ?_
    refine z_ifeqB (tgt := 44) hx hb dMo_share_31 (by decide) (fun c31 => ?_) (fun c31 => ?_)
    · skip
      refine lv_ldc2 (v := (-2)) hx hb hown (hts _ kc_Mo_183) dMo_share_44 ?_
      exact hret _ _ _ _ ((Li, Od, Bg, kd, fi, sl), Sx, Tw, Ts, tp) _ _ w (rfl) (⟨(oS_a hLi hOd hBg hsl), hTw, hTs, htp⟩) dMo_share_47 (by rw [zif_t c10, zif_f (fun h => by rw [htn] at h; first | exact c31 h.1 | exact c41 h.2)])
    · skip
      have c31b := c31
      obtain ⟨q, hq, rfl⟩ := in_nat1 (by omega) c31
      have htq : tn (nI q) = q := tn_nI (by omega)
      refine lv_iload_n hx hb dMo_share_34 rfl (lv_at hl 3 rfl) ?_
      refine lv_i2l hx hb dMo_share_35 rfl ?_
      refine lv_lconst (v := lN 0) hx hb dMo_share_36 (by decide) ?_
      refine lv_lconst (v := lN 1) hx hb dMo_share_37 (by decide) ?_
      refine z_rS (As := [.long v.toInt64, .long (lN 0), .long (lN 1)]) (rest := []) Sf (c_Mo_in l G v.toInt64 (lN 0) (lN 1) ) mv_Mo_71 ⟨rfl, rfl⟩ ⟨Nat.le_of_ble_eq_true rfl, Nat.le_of_ble_eq_true rfl⟩ w.1 [] rfl rfl hl.1 rfl (Nat.le_of_ble_eq_true rfl) dMo_share_38 ⟨Nat.le_of_ble_eq_true rfl, Nat.le_of_ble_eq_true rfl⟩ ?_
      refine z_ifneB (tgt := 48) hx hb dMo_share_41 (by decide) (fun c41 => ?_) (fun c41 => ?_)
      · skip
        have c41b := c41
        obtain ⟨r2, -, hr2, rfl⟩ := in_nat (by decide) (by decide) c41
        have htr : tn (nI r2) = r2 := tn_nI (by omega)
        refine lv_aload_n hx hb dMo_share_48 rfl (lv_at hl 0 rfl) ?_
        refine z_wV (wr := [(ab, zI G 12 (fun j => mI (Bd j))), (aco, zI G 16 (fun j => nI (Co j))), (aen, zI G 4096 (fun j => nI (En j))), (ast, zI G 12 (fun j => nI (Sx j))), (atw, zL G 25 (fun j => lN (Tw j))), (ats, zI G 25 (fun j => nI (Ts j)))]) (As := []) (rest := []) Sf (c_Mo_isTooMuch l G m0 av ab apl ase aco aen aor aba ali ale ach ast atw ats n stt nf mem kd sl fi tp 0 V Pl Se Od Bg Li (by first | assumption | omega) (by first | assumption | omega) (by first | assumption | omega) (by first | assumption | omega) (by first | assumption | omega) (by first | assumption | omega) (by first | assumption | omega) (by first | assumption | omega) (by first | assumption | omega) H.size) mv_Mo_173 ⟨rfl, rfl⟩ ⟨Nat.le_of_ble_eq_true rfl, Nat.le_of_ble_eq_true rfl⟩ w [0, 1, 2, 3, 4, 5, 6] [7, 8, 9, 10, 11, 12] rfl rfl (by decide) (by decide) (by decide) 0 rfl rfl rfl rfl hl.1 rfl (Nat.le_of_ble_eq_true rfl) dMo_share_49 ⟨Nat.le_of_ble_eq_true rfl, Nat.le_of_ble_eq_true rfl⟩ (fun u1 H locs hu1 w => ?_)
        have w := w.eq (ws' := [(ab, zI G 12 (fun j => mI (Bd j))), (aco, zI G 16 (fun j => nI (Co j))), (aen, zI G 4096 (fun j => nI (En j))), (ast, zI G 12 (fun j => nI (Sx j))), (atw, zL G 25 (fun j => lN (Tw j))), (ats, zI G 25 (fun j => nI (Ts j))), (m0, zO 7 [.int (nI n), .ref av, .ref ab, .ref apl, .int (nI stt), .int (nI nf), .ref ase, .ref aco, .ref aen, .int (nI mem), .int (nI ((rfZ n nf sl kd fi V Pl Se Li Od Bg).2.2.2.1)), .int (nI 0), .ref aor, .ref aba, .int (nI ((rfZ n nf sl kd fi V Pl Se Li Od Bg).2.2.2.2)), .ref ali, .ref ale, .ref ach, .ref ast, .ref atw, .ref ats, .int (nI tp), .int (nI 0)]), (av, zI G 12 (fun j => nI (V j))), (apl, zI G 12 (fun j => mI (Pl j))), (ase, zI G 16 (fun j => nI (Se j))), (aor, zI G 12 (fun j => nI (((rfZ n nf sl kd fi V Pl Se Li Od Bg).2.1) j))), (aba, zI G 12 (fun j => nI (((rfZ n nf sl kd fi V Pl Se Li Od Bg).2.2.1) j))), (ali, zI G 12 (fun j => nI (((rfZ n nf sl kd fi V Pl Se Li Od Bg).1) j)))]) rfl
        refine W.eq (g2 := F0 m 52 ls [.int (bI (mem < mcF V (rfZ n nf sl kd fi V Pl Se Li Od Bg).2.2.1 n n))]) rfl ?_
        refine z_ifeqB (tgt := 59) hx hb dMo_share_52 (by decide) (fun c52 => ?_) (fun c52 => ?_)
        · skip
          refine lv_lconst (v := lN 0) hx hb dMo_share_59 (by decide) ?_
          refine lv_lstore (lv' := [(4, .long (lN 0)), (0, .ref m0), (1, .int (nI S)), (2, .int (nI q)), (3, .int (nI r2))]) hx hb dMo_share_60 hl (by decide) rfl (fun ls hl => ?_)
          refine lv_lconst (v := lN 0) hx hb dMo_share_62 (by decide) ?_
          refine lv_lstore (lv' := [(6, .long (lN 0)), (4, .long (lN 0)), (0, .ref m0), (1, .int (nI S)), (2, .int (nI q)), (3, .int (nI r2))]) hx hb dMo_share_63 hl (by decide) rfl (fun ls hl => ?_)
          refine lv_iconst (v := (nI 0)) hx hb dMo_share_65 (by decide) ?_
          refine lv_istore (lv' := [(8, .int (nI 0)), (6, .long (lN 0)), (4, .long (lN 0)), (0, .ref m0), (1, .int (nI S)), (2, .int (nI q)), (3, .int (nI r2))]) hx hb dMo_share_66 hl (by decide) rfl (fun ls hl => ?_)
          have L68 : ∀ (fu68 : Nat) (k t p2 : Nat) (F : Nat → Nat), (k ≤ stt) → (t = smF (wtM V Bd Se Co En n nf) k) → (p2 = smF (whF (wtM V Bd Se Co En n nf) (fun k => nmF (valF V n k) V S n) q) k) → (stt - k) < fu68 → ∀ (H : Heap) (locs : List Loc), zw G A s [(m0, zO 7 [.int (nI n), .ref av, .ref ab, .ref apl, .int (nI stt), .int (nI nf), .ref ase, .ref aco, .ref aen, .int (nI mem), .int (nI ((rfZ n nf sl kd fi V Pl Se Li Od Bg).2.2.2.1)), .int (nI 0), .ref aor, .ref aba, .int (nI ((rfZ n nf sl kd fi V Pl Se Li Od Bg).2.2.2.2)), .ref ali, .ref ale, .ref ach, .ref ast, .ref atw, .ref ats, .int (nI tp), .int (nI 0)]), (av, zI G 12 (fun j => nI (V j))), (apl, zI G 12 (fun j => mI (Pl j))), (ase, zI G 16 (fun j => nI (Se j))), (aor, zI G 12 (fun j => nI (((rfZ n nf sl kd fi V Pl Se Li Od Bg).2.1) j))), (aba, zI G 12 (fun j => nI (((rfZ n nf sl kd fi V Pl Se Li Od Bg).2.2.1) j))), (ali, zI G 12 (fun j => nI (((rfZ n nf sl kd fi V Pl Se Li Od Bg).1) j))), (ab, zI G 12 (fun j => mI (Bd j))), (aco, zI G 16 (fun j => nI (Co j))), (aen, zI G 4096 (fun j => nI (En j))), (ast, zI G 12 (fun j => nI (F j))), (atw, zL G 25 (fun j => lN (Tw j))), (ats, zI G 25 (fun j => nI (Ts j)))] H locs → ∀ (ls : Array Slot), lv_has ls 11 [(8, .int (nI k)), (6, .long (lN p2)), (4, .long (lN t)), (0, .ref m0), (1, .int (nI S)), (2, .int (nI q)), (3, .int (nI r2))] → W p l e rm_Mo_share s m args below meth c H locs 0 0 Q (F0 m 68 ls []) := by
            intro fu68
            induction fu68 with
            | zero =>
              intro k t p2 F hk ht hp2 hm68
              exact absurd hm68 (Nat.not_lt_zero _)
            | succ fu68 ih68 =>
              intro k t p2 F hk ht hp2 hm68 H locs w ls hl
              refine lv_iload hx hb dMo_share_68 (lv_at hl 0 rfl) ?_
              refine lv_aload_n hx hb dMo_share_70 rfl (lv_at hl 3 rfl) ?_
              refine gf_Mo_58 Sf w.1 0 rfl rfl dMo_share_71 ?_
              refine z_icmpge (tgt := 119) hx hb (by omega) (by omega) dMo_share_74 (by decide) (fun c74 => ?_) (fun c74 => ?_)
              · skip
                have hkn : k = stt := by omega
                have htb := sm_b (wt := wtM V Bd Se Co En n nf) (fun x => wtM_le hEn hCo) hst
                have hpb := sm_b (wt := whF (wtM V Bd Se Co En n nf) (fun k => nmF (valF V n k) V S n) q) (wh_b (fun x => wtM_le hEn hCo)) hst
                rw [hkn] at ht hp2
                refine lv_lload hx hb dMo_share_119 (lv_at hl 2 rfl) ?_
                refine lv_lconst (v := lN 0) hx hb dMo_share_121 (by decide) ?_
                refine W.lcmp hx hb dMo_share_122 ?_
                refine z_lcneN (tgt := 130) hx hb (by omega) (by omega) dMo_share_123 (by decide) (fun c123 => ?_) (fun c123 => ?_)
                · skip
                  have hg0 : 0 < Nat.gcd t p2 := Nat.gcd_pos_of_pos_left _ (Nat.pos_of_ne_zero c123)
                  have hgl : Nat.gcd t p2 ≤ t := Nat.gcd_le_left _ (Nat.pos_of_ne_zero c123)
                  refine lv_lload hx hb dMo_share_130 (lv_at hl 2 rfl) ?_
                  refine lv_lload hx hb dMo_share_132 (lv_at hl 1 rfl) ?_
                  refine z_rS (As := [.long (lN t), .long (lN p2)]) (rest := []) Sf (c_Mo_divisor l G t p2 (by first | assumption | omega) (by first | assumption | omega)) mv_Mo_187 ⟨rfl, rfl⟩ ⟨Nat.le_of_ble_eq_true rfl, Nat.le_of_ble_eq_true rfl⟩ w.1 [] rfl rfl hl.1 rfl (Nat.le_of_ble_eq_true rfl) dMo_share_134 ⟨Nat.le_of_ble_eq_true rfl, Nat.le_of_ble_eq_true rfl⟩ ?_
                  refine lv_lstore (lv' := [(8, .long (lN (Nat.gcd t p2))), (6, .long (lN p2)), (4, .long (lN t)), (0, .ref m0), (1, .int (nI S)), (2, .int (nI q)), (3, .int (nI r2))]) hx hb dMo_share_137 hl (by decide) rfl (fun ls hl => ?_)
                  refine lv_iload_n hx hb dMo_share_139 rfl (lv_at hl 6 rfl) ?_
                  refine z_ifneN (tgt := 151) hx hb (by omega) dMo_share_140 (by decide) (fun c140 => ?_) (fun c140 => ?_)
                  · skip
                    refine lv_lload hx hb dMo_share_151 (lv_at hl 2 rfl) ?_
                    refine lv_lload hx hb dMo_share_153 (lv_at hl 0 rfl) ?_
                    refine z_ldivN hx hb (by omega) (by omega) (by omega) dMo_share_155 ?_
                    exact hret _ _ _ _ (((rfZ n nf sl kd fi V Pl Se Li Od Bg).1, (rfZ n nf sl kd fi V Pl Se Li Od Bg).2.1, (rfZ n nf sl kd fi V Pl Se Li Od Bg).2.2.1, ((rfZ n nf sl kd fi V Pl Se Li Od Bg).2.2.2.1), ((rfZ n nf sl kd fi V Pl Se Li Od Bg).2.2.2.2), 0), F, Tw, Ts, tp) _ _ w (rfl) (⟨(oS_b hn hSe hLi hOd hBg), hTw, hTs, htp⟩) dMo_share_156 (by rw [zif_t c10, zif_t ⟨by rw [htn]; exact c31b, c41b⟩, zif_f (show ¬ tmP n nf mem V Pl Se (Li, Od, Bg, kd, fi, sl) from c52), zif_f (by rw [← ht]; exact c123), htn, htq, htr, ← ht, ← hp2]; first | (rw [zif_t c140]; done) | (rw [zif_f c140]))
                  · skip
                    refine lv_lload hx hb dMo_share_143 (lv_at hl 1 rfl) ?_
                    refine lv_lload hx hb dMo_share_145 (lv_at hl 0 rfl) ?_
                    refine z_ldivN hx hb (by omega) (by omega) (by omega) dMo_share_147 ?_
                    refine lv_goto (tgt := 156) hx hb dMo_share_148 (by decide) ?_
                    exact hret _ _ _ _ (((rfZ n nf sl kd fi V Pl Se Li Od Bg).1, (rfZ n nf sl kd fi V Pl Se Li Od Bg).2.1, (rfZ n nf sl kd fi V Pl Se Li Od Bg).2.2.1, ((rfZ n nf sl kd fi V Pl Se Li Od Bg).2.2.2.1), ((rfZ n nf sl kd fi V Pl Se Li Od Bg).2.2.2.2), 0), F, Tw, Ts, tp) _ _ w (rfl) (⟨(oS_b hn hSe hLi hOd hBg), hTw, hTs, htp⟩) dMo_share_156 (by rw [zif_t c10, zif_t ⟨by rw [htn]; exact c31b, c41b⟩, zif_f (show ¬ tmP n nf mem V Pl Se (Li, Od, Bg, kd, fi, sl) from c52), zif_f (by rw [← ht]; exact c123), htn, htq, htr, ← ht, ← hp2]; first | (rw [zif_t c140]; done) | (rw [zif_f c140]))
                · skip
                  refine lv_ldc2 (v := (-3)) hx hb hown (hts _ kc_Mo_185) dMo_share_126 ?_
                  exact hret _ _ _ _ (((rfZ n nf sl kd fi V Pl Se Li Od Bg).1, (rfZ n nf sl kd fi V Pl Se Li Od Bg).2.1, (rfZ n nf sl kd fi V Pl Se Li Od Bg).2.2.1, ((rfZ n nf sl kd fi V Pl Se Li Od Bg).2.2.2.1), ((rfZ n nf sl kd fi V Pl Se Li Od Bg).2.2.2.2), 0), F, Tw, Ts, tp) _ _ w (rfl) (⟨(oS_b hn hSe hLi hOd hBg), hTw, hTs, htp⟩) dMo_share_129 (by rw [zif_t c10, zif_t ⟨by rw [htn]; exact c31b, c41b⟩, zif_f (show ¬ tmP n nf mem V Pl Se (Li, Od, Bg, kd, fi, sl) from c52), zif_t (by rw [← ht]; exact c123)])
              · skip
                refine lv_aload_n hx hb dMo_share_77 rfl (lv_at hl 3 rfl) ?_
                refine lv_iload hx hb dMo_share_78 (lv_at hl 0 rfl) ?_
                refine z_wV (wr := [(apl, zI G 12 (fun j => mI (Pl j))), (aor, zI G 12 (fun j => nI (((rfZ n nf sl kd fi V Pl Se Li Od Bg).2.1) j))), (aba, zI G 12 (fun j => nI (((rfZ n nf sl kd fi V Pl Se Li Od Bg).2.2.1) j))), (ali, zI G 12 (fun j => nI (((rfZ n nf sl kd fi V Pl Se Li Od Bg).1) j))), (atw, zL G 25 (fun j => lN (Tw j))), (ats, zI G 25 (fun j => nI (Ts j)))]) (As := [.int (nI k)]) (rest := []) Sf (c_Mo_weigh l G m0 av ab apl ase aco aen aor aba ali ale ach ast atw ats n stt nf mem ((rfZ n nf sl kd fi V Pl Se Li Od Bg).2.2.2.1) 0 ((rfZ n nf sl kd fi V Pl Se Li Od Bg).2.2.2.2) tp 0 V Bd Se Co En F k (by first | assumption | omega) (by first | assumption | omega) (by first | assumption | omega) (by first | assumption | omega) (by first | assumption | omega) (by first | assumption | omega) (by first | assumption | omega) (by first | assumption | omega) (by omega) H.size) mv_Mo_169 ⟨rfl, rfl⟩ ⟨Nat.le_of_ble_eq_true rfl, Nat.le_of_ble_eq_true rfl⟩ w [0, 1, 7, 3, 8, 9, 10] [2, 4, 5, 6, 11, 12] rfl rfl (by decide) (by decide) (by decide) 0 rfl rfl rfl rfl hl.1 rfl (Nat.le_of_ble_eq_true rfl) dMo_share_80 ⟨Nat.le_of_ble_eq_true rfl, Nat.le_of_ble_eq_true rfl⟩ (fun u2 H locs hu2 w => ?_)
                have w := w.eq (ws' := [(apl, zI G 12 (fun j => mI (Pl j))), (aor, zI G 12 (fun j => nI (((rfZ n nf sl kd fi V Pl Se Li Od Bg).2.1) j))), (aba, zI G 12 (fun j => nI (((rfZ n nf sl kd fi V Pl Se Li Od Bg).2.2.1) j))), (ali, zI G 12 (fun j => nI (((rfZ n nf sl kd fi V Pl Se Li Od Bg).1) j))), (atw, zL G 25 (fun j => lN (Tw j))), (ats, zI G 25 (fun j => nI (Ts j))), (m0, zO 7 [.int (nI n), .ref av, .ref ab, .ref apl, .int (nI stt), .int (nI nf), .ref ase, .ref aco, .ref aen, .int (nI mem), .int (nI ((rfZ n nf sl kd fi V Pl Se Li Od Bg).2.2.2.1)), .int (nI 0), .ref aor, .ref aba, .int (nI ((rfZ n nf sl kd fi V Pl Se Li Od Bg).2.2.2.2)), .ref ali, .ref ale, .ref ach, .ref ast, .ref atw, .ref ats, .int (nI tp), .int (nI 0)]), (av, zI G 12 (fun j => nI (V j))), (ab, zI G 12 (fun j => mI (Bd j))), (ase, zI G 16 (fun j => nI (Se j))), (aco, zI G 16 (fun j => nI (Co j))), (aen, zI G 4096 (fun j => nI (En j))), (ast, zI G 12 (fun j => nI ((rowF F (valF V n k) n) j)))]) rfl
                refine W.eq (g2 := F0 m 83 ls [.long (lN (wtM V Bd Se Co En n nf k))]) rfl ?_
                refine lv_lstore (lv' := [(9, .long (lN (wtM V Bd Se Co En n nf k))), (8, .int (nI k)), (6, .long (lN p2)), (4, .long (lN t)), (0, .ref m0), (1, .int (nI S)), (2, .int (nI q)), (3, .int (nI r2))]) hx hb dMo_share_83 hl (by decide) rfl (fun ls hl => ?_)
                refine lv_lload hx hb dMo_share_85 (lv_at hl 3 rfl) ?_
                refine lv_lload hx hb dMo_share_87 (lv_at hl 0 rfl) ?_
                refine z_laddN hx hb dMo_share_89 ?_
                refine lv_lstore (lv' := [(4, .long (lN (t + (wtM V Bd Se Co En n nf k)))), (9, .long (lN (wtM V Bd Se Co En n nf k))), (8, .int (nI k)), (6, .long (lN p2)), (0, .ref m0), (1, .int (nI S)), (2, .int (nI q)), (3, .int (nI r2))]) hx hb dMo_share_90 hl (by decide) rfl (fun ls hl => ?_)
                have hnm2 : nmF (rowF F (valF V n k) n) V S n = nmF (valF V n k) V S n := nmF_congr n (fun i hi => rowF_lt hi)
                have hnl := nmF_lt (Sx := valF V n k) (V := V) (S := S) n (fun i hi => valF_lt (hV0 i hi).1)
                refine lv_aload_n hx hb dMo_share_92 rfl (lv_at hl 4 rfl) ?_
                refine lv_iload_n hx hb dMo_share_93 rfl (lv_at hl 5 rfl) ?_
                refine z_rV (As := [.int (nI S)]) (rest := []) Sf (c_Mo_numberOf l G m0 av ab apl ase aco aen aor aba ali ale ach ast atw ats n stt nf mem ((rfZ n nf sl kd fi V Pl Se Li Od Bg).2.2.2.1) 0 ((rfZ n nf sl kd fi V Pl Se Li Od Bg).2.2.2.2) tp 0 V (rowF F (valF V n k) n) S (by first | assumption | omega) (by omega)) mv_Mo_166 ⟨rfl, rfl⟩ ⟨Nat.le_of_ble_eq_true rfl, Nat.le_of_ble_eq_true rfl⟩ w.1 [6, 7, 12] rfl 6 rfl rfl rfl rfl hl.1 rfl (Nat.le_of_ble_eq_true rfl) dMo_share_94 ⟨Nat.le_of_ble_eq_true rfl, Nat.le_of_ble_eq_true rfl⟩ ?_
                refine lv_iload_n hx hb dMo_share_97 rfl (lv_at hl 6 rfl) ?_
                refine z_icmpne (tgt := 109) hx hb (by omega) (by omega) dMo_share_98 (by decide) (fun c98 => ?_) (fun c98 => ?_)
                · skip
                  have hwh : whF (wtM V Bd Se Co En n nf) (fun k => nmF (valF V n k) V S n) q k = 0 := whF_f (g := fun k => nmF (valF V n k) V S n) (by show nmF (valF V n k) V S n ≠ q; rw [← hnm2]; exact c98)
                  refine lv_lload hx hb dMo_share_109 (lv_at hl 3 rfl) ?_
                  refine lv_lstore (lv' := [(6, .long (lN p2)), (4, .long (lN (t + (wtM V Bd Se Co En n nf k)))), (9, .long (lN (wtM V Bd Se Co En n nf k))), (8, .int (nI k)), (0, .ref m0), (1, .int (nI S)), (2, .int (nI q)), (3, .int (nI r2))]) hx hb dMo_share_111 hl (by decide) rfl (fun ls hl => ?_)
                  refine z_iinc (d := 1) (lv' := [(8, .int (nI (k + 1))), (6, .long (lN p2)), (4, .long (lN (t + (wtM V Bd Se Co En n nf k)))), (9, .long (lN (wtM V Bd Se Co En n nf k))), (0, .ref m0), (1, .int (nI S)), (2, .int (nI q)), (3, .int (nI r2))]) hx hb dMo_share_113 hl (k := 3) rfl (by decide) (by decide) rfl (fun ls hl => ?_)
                  refine lv_goto (tgt := 68) hx hb dMo_share_116 (by decide) ?_
                  refine ih68 (k + 1) (t + (wtM V Bd Se Co En n nf k)) _ (rowF F (valF V n k) n) ?_ ?_ ?_ ?_ _ _ (w.perm [6, 7, 0, 9, 1, 2, 3, 8, 10, 11, 12, 4, 5] (by decide) rfl) ls (lv_sub hl [0, 1, 2, 4, 5, 6, 7] rfl)
                  · omega
                  · rw [ht]; rfl
                  · first | (simp only [smF]; rw [hwh, hp2]; done) | (simp only [smF]; rw [hwh, hp2, Nat.add_zero])
                  · omega
                · skip
                  have hwh : whF (wtM V Bd Se Co En n nf) (fun k => nmF (valF V n k) V S n) q k = wtM V Bd Se Co En n nf k := whF_t (g := fun k => nmF (valF V n k) V S n) (by show nmF (valF V n k) V S n = q; rw [← hnm2]; exact c98)
                  refine lv_lload hx hb dMo_share_101 (lv_at hl 3 rfl) ?_
                  refine lv_lload hx hb dMo_share_103 (lv_at hl 1 rfl) ?_
                  refine z_laddN hx hb dMo_share_105 ?_
                  refine lv_goto (tgt := 111) hx hb dMo_share_106 (by decide) ?_
                  refine lv_lstore (lv' := [(6, .long (lN (p2 + (wtM V Bd Se Co En n nf k)))), (4, .long (lN (t + (wtM V Bd Se Co En n nf k)))), (9, .long (lN (wtM V Bd Se Co En n nf k))), (8, .int (nI k)), (0, .ref m0), (1, .int (nI S)), (2, .int (nI q)), (3, .int (nI r2))]) hx hb dMo_share_111 hl (by decide) rfl (fun ls hl => ?_)
                  refine z_iinc (d := 1) (lv' := [(8, .int (nI (k + 1))), (6, .long (lN (p2 + (wtM V Bd Se Co En n nf k)))), (4, .long (lN (t + (wtM V Bd Se Co En n nf k)))), (9, .long (lN (wtM V Bd Se Co En n nf k))), (0, .ref m0), (1, .int (nI S)), (2, .int (nI q)), (3, .int (nI r2))]) hx hb dMo_share_113 hl (k := 3) rfl (by decide) (by decide) rfl (fun ls hl => ?_)
                  refine lv_goto (tgt := 68) hx hb dMo_share_116 (by decide) ?_
                  refine ih68 (k + 1) (t + (wtM V Bd Se Co En n nf k)) (p2 + (wtM V Bd Se Co En n nf k)) (rowF F (valF V n k) n) ?_ ?_ ?_ ?_ _ _ (w.perm [6, 7, 0, 9, 1, 2, 3, 8, 10, 11, 12, 4, 5] (by decide) rfl) ls (lv_sub hl [0, 1, 2, 4, 5, 6, 7] rfl)
                  · omega
                  · rw [ht]; rfl
                  · first | (simp only [smF]; rw [hwh, hp2]; done) | (simp only [smF]; rw [hwh, hp2, Nat.add_zero])
                  · omega
          refine L68 ((stt - 0) + 1) 0 0 0 Sx ?_ ?_ ?_ ?_ _ _ (w.perm [6, 7, 8, 9, 10, 11, 12, 0, 1, 2, 3, 4, 5] (by decide) rfl) ls (lv_sub hl [0, 1, 2, 3, 4, 5, 6] rfl)
          · omega
          · rfl
          · rfl
          · exact Nat.lt_succ_self _
        · skip
          refine lv_ldc2 (v := (-4)) hx hb hown (hts _ kc_Mo_177) dMo_share_55 ?_
          have w := w.perm (ws' := [(m0, zO 7 [.int (nI n), .ref av, .ref ab, .ref apl, .int (nI stt), .int (nI nf), .ref ase, .ref aco, .ref aen, .int (nI mem), .int (nI ((rfZ n nf sl kd fi V Pl Se Li Od Bg).2.2.2.1)), .int (nI 0), .ref aor, .ref aba, .int (nI ((rfZ n nf sl kd fi V Pl Se Li Od Bg).2.2.2.2)), .ref ali, .ref ale, .ref ach, .ref ast, .ref atw, .ref ats, .int (nI tp), .int (nI 0)]), (av, zI G 12 (fun j => nI (V j))), (apl, zI G 12 (fun j => mI (Pl j))), (ase, zI G 16 (fun j => nI (Se j))), (aor, zI G 12 (fun j => nI (((rfZ n nf sl kd fi V Pl Se Li Od Bg).2.1) j))), (aba, zI G 12 (fun j => nI (((rfZ n nf sl kd fi V Pl Se Li Od Bg).2.2.1) j))), (ali, zI G 12 (fun j => nI (((rfZ n nf sl kd fi V Pl Se Li Od Bg).1) j))), (ab, zI G 12 (fun j => mI (Bd j))), (aco, zI G 16 (fun j => nI (Co j))), (aen, zI G 4096 (fun j => nI (En j))), (ast, zI G 12 (fun j => nI (Sx j))), (atw, zL G 25 (fun j => lN (Tw j))), (ats, zI G 25 (fun j => nI (Ts j)))]) [6, 7, 8, 9, 10, 11, 12, 0, 1, 2, 3, 4, 5] (by decide) rfl
          exact hret _ _ _ _ (((rfZ n nf sl kd fi V Pl Se Li Od Bg).1, (rfZ n nf sl kd fi V Pl Se Li Od Bg).2.1, (rfZ n nf sl kd fi V Pl Se Li Od Bg).2.2.1, ((rfZ n nf sl kd fi V Pl Se Li Od Bg).2.2.2.1), ((rfZ n nf sl kd fi V Pl Se Li Od Bg).2.2.2.2), 0), Sx, Tw, Ts, tp) _ _ w (rfl) (⟨(oS_b hn hSe hLi hOd hBg), hTw, hTs, htp⟩) dMo_share_58 (by rw [zif_t c10, zif_t ⟨by rw [htn]; exact c31b, c41b⟩, zif_t (show tmP n nf mem V Pl Se (Li, Od, Bg, kd, fi, sl) from c52)])
      · skip
        refine lv_ldc2 (v := (-2)) hx hb hown (hts _ kc_Mo_183) dMo_share_44 ?_
        exact hret _ _ _ _ ((Li, Od, Bg, kd, fi, sl), Sx, Tw, Ts, tp) _ _ w (rfl) (⟨(oS_a hLi hOd hBg hsl), hTw, hTs, htp⟩) dMo_share_47 (by rw [zif_t c10, zif_f (fun h => by rw [htn] at h; first | exact c31 h.1 | exact c41 h.2)])
  · skip
    refine lv_ldc2 (v := (mL 0)) hx hb hown (hts _ kc_Mo_107) dMo_share_13 ?_
    exact hret _ _ _ _ ((Li, Od, Bg, kd, fi, sl), Sx, Tw, Ts, tp) _ _ w (rfl) (⟨(oS_a hLi hOd hBg hsl), hTw, hTs, htp⟩) dMo_share_16 (by rw [zif_f c10, mL_0])

def rm_Mo_weight : Room := { frames := 2, cells := 0, slots := 0, locals := 76 }
set_option maxHeartbeats 4000000 in
set_option maxRecDepth 100000 in
theorem c_Mo_weight (l : Launch) (G : zG) (m0 av ab apl ase aco aen aor aba ali ale ach ast atw ats : Nat) (n stt nf mem kd sl fi tp th : Nat) (V Bd Se Co En Sx : Nat → Nat) (x : Int32) (hn : n ≤ 12) (hnf : nf ≤ 16) (hV0 : ∀ j, j < n → 0 < V j ∧ V j ≤ 4) (hSe : ∀ i, Se i < 4096) (hC4 : ∀ f, f < nf → cellsF V (Se f) n ≤ 256) (hEn : ∀ i, En i ≤ 7) (hCo : sumF Co nf ≤ 16) (hBd : ∀ i, Bd i ≤ 4) (hst : stt ≤ 65536) (sz : Nat) : Met l yMo_weight (.code yMo_weight cMo_weight 2 (some .long) :: zT) rm_Mo_weight (zPw G [.ref m0, .int x] [(m0, zO 7 [.int (nI n), .ref av, .ref ab, .ref apl, .int (nI stt), .int (nI nf), .ref ase, .ref aco, .ref aen, .int (nI mem), .int (nI kd), .int (nI sl), .ref aor, .ref aba, .int (nI fi), .ref ali, .ref ale, .ref ach, .ref ast, .ref atw, .ref ats, .int (nI tp), .int (nI th)]), (av, zI G 12 (fun j => nI (V j))), (ab, zI G 12 (fun j => mI (Bd j))), (ase, zI G 16 (fun j => nI (Se j))), (aco, zI G 16 (fun j => nI (Co j))), (aen, zI G 4096 (fun j => nI (En j))), (ast, zI G 12 (fun j => nI (Sx j)))] sz) (zQ (S := Nat → Nat) G (fun u => some (.long (zif (knP x stt) (lN (wtM V Bd Se Co En n nf (tn x))) (-2)))) (fun u => [(m0, zO 7 [.int (nI n), .ref av, .ref ab, .ref apl, .int (nI stt), .int (nI nf), .ref ase, .ref aco, .ref aen, .int (nI mem), .int (nI kd), .int (nI sl), .ref aor, .ref aba, .int (nI fi), .ref ali, .ref ale, .ref ach, .ref ast, .ref atw, .ref ats, .int (nI tp), .int (nI 0)]), (av, zI G 12 (fun j => nI (V j))), (ab, zI G 12 (fun j => mI (Bd j))), (ase, zI G 16 (fun j => nI (Se j))), (aco, zI G 16 (fun j => nI (Co j))), (aen, zI G 4096 (fun j => nI (En j))), (ast, zI G 12 (fun j => nI (u j)))]) (va_A [(m0, zO 7 [.int (nI n), .ref av, .ref ab, .ref apl, .int (nI stt), .int (nI nf), .ref ase, .ref aco, .ref aen, .int (nI mem), .int (nI kd), .int (nI sl), .ref aor, .ref aba, .int (nI fi), .ref ali, .ref ale, .ref ach, .ref ast, .ref atw, .ref ats, .int (nI tp), .int (nI th)]), (av, zI G 12 (fun j => nI (V j))), (ab, zI G 12 (fun j => mI (Bd j))), (ase, zI G 16 (fun j => nI (Se j))), (aco, zI G 16 (fun j => nI (Co j))), (aen, zI G 4096 (fun j => nI (En j))), (ast, zI G 12 (fun j => nI (Sx j)))] sz) (fun u => True)) 0 0 (va_A [(m0, zO 7 [.int (nI n), .ref av, .ref ab, .ref apl, .int (nI stt), .int (nI nf), .ref ase, .ref aco, .ref aen, .int (nI mem), .int (nI kd), .int (nI sl), .ref aor, .ref aba, .int (nI fi), .ref ali, .ref ale, .ref ach, .ref ast, .ref atw, .ref ats, .int (nI tp), .int (nI th)]), (av, zI G 12 (fun j => nI (V j))), (ab, zI G 12 (fun j => mI (Bd j))), (ase, zI G 16 (fun j => nI (Se j))), (aco, zI G 16 (fun j => nI (Co j))), (aen, zI G 4096 (fun j => nI (En j))), (ast, zI G 12 (fun j => nI (Sx j)))] sz) := by
  refine z_metWl (by decide) (Nat.le_of_ble_eq_true rfl) (fun p e s m args below meth c ls A Q Sf hnm w hl hret => ?_)
  obtain ⟨H, hH⟩ : ∃ H, H = s.heap := ⟨_, rfl⟩
  obtain ⟨locs, hlo⟩ : ∃ L : List Loc, L = [] := ⟨_, rfl⟩
  rw [← hH, ← hlo] at w
  rw [← hH, ← hlo]
  clear hH hlo
  have Sf : CallFix p m c cMo_weight 2 s args zT RMo := Sf
  have hx := Sf.1
  have hb := Sf.2.1
  have hown := Sf.2.2.2.1
  have hts := Sf.2.2.2.2
  have hl : lv_has ls 2 [(0, .ref m0), (1, .int x)] := hl
  refine lv_aload_n hx hb dMo_weight_0 rfl (lv_at hl 0 rfl) ?_
  refine lv_iconst (v := (nI 0)) hx hb dMo_weight_1 (by decide) ?_
  refine pf_Mo_65 Sf w 0 rfl rfl rfl (Nat.le_of_ble_eq_true rfl) (ws' := [(m0, zO 7 [.int (nI n), .ref av, .ref ab, .ref apl, .int (nI stt), .int (nI nf), .ref ase, .ref aco, .ref aen, .int (nI mem), .int (nI kd), .int (nI sl), .ref aor, .ref aba, .int (nI fi), .ref ali, .ref ale, .ref ach, .ref ast, .ref atw, .ref ats, .int (nI tp), .int (nI 0)]), (av, zI G 12 (fun j => nI (V j))), (ab, zI G 12 (fun j => mI (Bd j))), (ase, zI G 16 (fun j => nI (Se j))), (aco, zI G 16 (fun j => nI (Co j))), (aen, zI G 4096 (fun j => nI (En j))), (ast, zI G 12 (fun j => nI (Sx j)))]) rfl dMo_weight_2 (fun H locs w => ?_)
  refine lv_iload_n hx hb dMo_weight_5 rfl (lv_at hl 1 rfl) ?_
  refine lv_i2l hx hb dMo_weight_6 rfl ?_
  refine lv_lconst (v := lN 0) hx hb dMo_weight_7 (by decide) ?_
  refine lv_aload_n hx hb dMo_weight_8 rfl (lv_at hl 0 rfl) ?_
  refine gf_Mo_58 Sf w.1 0 rfl rfl dMo_weight_9 ?_
  refine lv_iconst (v := (nI 1)) hx hb dMo_weight_12 (by decide) ?_
  refine z_subM hx hb dMo_weight_13 ?_
  refine lv_i2l hx hb dMo_weight_14 rfl ?_
  refine z_rS (As := [.long x.toInt64, .long (lN 0), .long ((mI stt).toInt64)]) (rest := []) Sf (c_Mo_in l G x.toInt64 (lN 0) ((mI stt).toInt64) ) mv_Mo_71 ⟨rfl, rfl⟩ ⟨Nat.le_of_ble_eq_true rfl, Nat.le_of_ble_eq_true rfl⟩ w.1 [] rfl rfl hl.1 rfl (Nat.le_of_ble_eq_true rfl) dMo_weight_15 ⟨Nat.le_of_ble_eq_true rfl, Nat.le_of_ble_eq_true rfl⟩ ?_
  refine z_ifeqB (tgt := 29) hx hb dMo_weight_18 (by decide) (fun c18 => ?_) (fun c18 => ?_)
  · skip
    refine lv_ldc2 (v := (-2)) hx hb hown (hts _ kc_Mo_183) dMo_weight_29 ?_
    exact hret _ _ _ _ Sx _ _ w (rfl) (trivial) dMo_weight_32 (by first | (rw [zif_t c18b, htq]; done) | (rw [zif_f (fun h => c18 ((in_kn (by omega)).mpr h))]))
  · skip
    have c18b := (in_kn (by omega)).mp c18
    obtain ⟨q, hq, rfl⟩ := kn_nat (by omega) c18b
    have htq : tn (nI q) = q := tn_nI (by omega)
    refine lv_aload_n hx hb dMo_weight_21 rfl (lv_at hl 0 rfl) ?_
    refine lv_iload_n hx hb dMo_weight_22 rfl (lv_at hl 1 rfl) ?_
    refine z_wV (wr := []) (As := [.int (nI q)]) (rest := []) Sf (c_Mo_weigh l G m0 av ab apl ase aco aen aor aba ali ale ach ast atw ats n stt nf mem kd sl fi tp 0 V Bd Se Co En Sx q (by first | assumption | omega) (by first | assumption | omega) (by first | assumption | omega) (by first | assumption | omega) (by first | assumption | omega) (by first | assumption | omega) (by first | assumption | omega) (by first | assumption | omega) (by first | assumption | omega) H.size) mv_Mo_169 ⟨rfl, rfl⟩ ⟨Nat.le_of_ble_eq_true rfl, Nat.le_of_ble_eq_true rfl⟩ w [0, 1, 2, 3, 4, 5, 6] [] rfl rfl (by decide) (by decide) (by decide) 0 rfl rfl rfl rfl hl.1 rfl (Nat.le_of_ble_eq_true rfl) dMo_weight_23 ⟨Nat.le_of_ble_eq_true rfl, Nat.le_of_ble_eq_true rfl⟩ (fun u1 H locs hu1 w => ?_)
    have w := w.eq (ws' := [(m0, zO 7 [.int (nI n), .ref av, .ref ab, .ref apl, .int (nI stt), .int (nI nf), .ref ase, .ref aco, .ref aen, .int (nI mem), .int (nI kd), .int (nI sl), .ref aor, .ref aba, .int (nI fi), .ref ali, .ref ale, .ref ach, .ref ast, .ref atw, .ref ats, .int (nI tp), .int (nI 0)]), (av, zI G 12 (fun j => nI (V j))), (ab, zI G 12 (fun j => mI (Bd j))), (ase, zI G 16 (fun j => nI (Se j))), (aco, zI G 16 (fun j => nI (Co j))), (aen, zI G 4096 (fun j => nI (En j))), (ast, zI G 12 (fun j => nI ((rowF Sx (valF V n q) n) j)))]) rfl
    refine W.eq (g2 := F0 m 26 ls [.long (lN (wtM V Bd Se Co En n nf q))]) rfl ?_
    refine lv_goto (tgt := 32) hx hb dMo_weight_26 (by decide) ?_
    exact hret _ _ _ _ (rowF Sx (valF V n q) n) _ _ w (rfl) (trivial) dMo_weight_32 (by first | (rw [zif_t c18b, htq]; done) | (rw [zif_f (fun h => c18 ((in_kn (by omega)).mpr h))]))
