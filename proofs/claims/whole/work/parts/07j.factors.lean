def rm_Fs_add : Room := { frames := 1, cells := 0, slots := 0, locals := 23 }
set_option maxHeartbeats 4000000 in
set_option maxRecDepth 100000 in
theorem c_Fs_add (l : Launch) (G : zG) (fz g bn bl : Nat) (nf ca : Nat) (av an n : Nat) (st : Int32) (fB fL : Nat → Option Nat) (X : Nat → fR) (ad : Nat × Nat × Nat × Nat × Nat) (V : Nat → Nat) (S : Nat) (hn : n ≤ 12) (hnf : nf < 16) (hS : S < 4096) (hp4 : popc S ≤ 4) (had : X nf = frF ad) (hB : fB nf = some ad.1) (sz : Nat) : Met l yFs_add (.code yFs_add cFs_add 5 (some .int) :: zT) rm_Fs_add (zPw G [.ref fz, .int (nI S)] ([(fz, zO 1 [.ref g, .ref bn, .ref bl, .int (nI nf), .int (nI ca)]), (g, zO 2 [.ref av, .ref an, .int (nI n), .int st]), (av, zI G 12 (fun j => nI (V j))), (bn, zF G 16 fB), (bl, zF G 13 fL)] ++ pool G X 16) sz) (zQ (S := Unit) G (fun u => some (.int (nI nf))) (fun u => ([(fz, zO 1 [.ref g, .ref bn, .ref bl, .int (nI (nf + 1)), .int (nI (ca + 1))]), (g, zO 2 [.ref av, .ref an, .int (nI n), .int st]), (av, zI G 12 (fun j => nI (V j))), (bn, zF G 16 fB), (bl, zF G 13 (va_up fL (alF S 12) (some ad.1)))] ++ pool G (va_up X nf (nwF ad (fL (alF S 12)) V S n)) 16)) (va_A ([(fz, zO 1 [.ref g, .ref bn, .ref bl, .int (nI nf), .int (nI ca)]), (g, zO 2 [.ref av, .ref an, .int (nI n), .int st]), (av, zI G 12 (fun j => nI (V j))), (bn, zF G 16 fB), (bl, zF G 13 fL)] ++ pool G X 16) sz) (fun u => True)) 0 0 (va_A ([(fz, zO 1 [.ref g, .ref bn, .ref bl, .int (nI nf), .int (nI ca)]), (g, zO 2 [.ref av, .ref an, .int (nI n), .int st]), (av, zI G 12 (fun j => nI (V j))), (bn, zF G 16 fB), (bl, zF G 13 fL)] ++ pool G X 16) sz) := by
  refine z_metWi (by decide) (Nat.le_of_ble_eq_true rfl) (fun p e s m args below meth c ls A Q Sf hnm w hl hret => ?_)
  obtain ⟨H, hH⟩ : ∃ H, H = s.heap := ⟨_, rfl⟩
  obtain ⟨locs, hlo⟩ : ∃ L : List Loc, L = [] := ⟨_, rfl⟩
  rw [← hH, ← hlo] at w
  rw [← hH, ← hlo]
  clear hH hlo
  have Sf : CallFix p m c cFs_add 5 s args zT RFs := Sf
  have hx := Sf.1
  have hb := Sf.2.1
  have hown := Sf.2.2.2.1
  have hts := Sf.2.2.2.2
  have hl : lv_has ls 5 [(0, .ref fz), (1, .int (nI S))] := hl
  have hal := alF_le (S := S) 12
  refine lv_aload_n hx hb dFs_add_0 rfl (lv_at hl 0 rfl) ?_
  refine gf_Fs_25 Sf w.1 0 rfl rfl dFs_add_1 ?_
  refine lv_istore_n (lv' := [(2, .int (nI nf)), (0, .ref fz), (1, .int (nI S))]) hx hb dFs_add_4 rfl hl (by decide) rfl (fun ls hl => ?_)
  refine lv_iload_n hx hb dFs_add_5 rfl (lv_at hl 0 rfl) ?_
  refine lv_bipush (v := nI 16) hx hb dFs_add_6 (by decide) ?_
  refine z_icmpge (tgt := 20) hx hb (by omega) (by omega) dFs_add_8 (by decide) (fun c8 => ?_) (fun c8 => ?_)
  · skip
    exact absurd c8 (by omega)
  · skip
    refine lv_aload_n hx hb dFs_add_11 rfl (lv_at hl 1 rfl) ?_
    refine gf_Fs_11 Sf w.1 0 rfl rfl dFs_add_12 ?_
    refine lv_iload_n hx hb dFs_add_15 rfl (lv_at hl 0 rfl) ?_
    refine z_aald hx hb w.1 3 (k := nf) rfl (by omega) (by omega) dFs_add_16 ?_
    rw [hB]
    refine W.eq (g2 := F0 m 17 ls [.ref ad.1]) rfl ?_
    refine lv_goto (tgt := 21) hx hb dFs_add_17 (by decide) ?_
    refine lv_astore_n (lv' := [(3, .ref ad.1), (2, .int (nI nf)), (0, .ref fz), (1, .int (nI S))]) hx hb dFs_add_21 rfl hl (by decide) rfl (fun ls hl => ?_)
    refine lv_aload_n hx hb dFs_add_22 rfl (lv_at hl 0 rfl) ?_
    refine lv_ifnull hx hb dFs_add_23 ?_
    refine lv_iload_n hx hb dFs_add_26 rfl (lv_at hl 3 rfl) ?_
    refine z_rS (As := [.int (nI S)]) (rest := []) Sf (c_Fs_afterLastName l G S (by first | assumption | omega)) mv_Fs_29 ⟨rfl, rfl⟩ ⟨Nat.le_of_ble_eq_true rfl, Nat.le_of_ble_eq_true rfl⟩ w.1 [] rfl rfl hl.1 rfl (Nat.le_of_ble_eq_true rfl) dFs_add_27 ⟨Nat.le_of_ble_eq_true rfl, Nat.le_of_ble_eq_true rfl⟩ ?_
    refine lv_istore (lv' := [(4, .int (nI (alF S 12))), (3, .ref ad.1), (2, .int (nI nf)), (0, .ref fz), (1, .int (nI S))]) hx hb dFs_add_30 hl (by decide) rfl (fun ls hl => ?_)
    have w := (w.of_perm (pool_in [(fz, zO 1 [.ref g, .ref bn, .ref bl, .int (nI nf), .int (nI ca)]), (g, zO 2 [.ref av, .ref an, .int (nI n), .int st]), (av, zI G 12 (fun j => nI (V j))), (bn, zF G 16 fB), (bl, zF G 13 fL)] hnf)).eq (ws' := ([(fz, zO 1 [.ref g, .ref bn, .ref bl, .int (nI nf), .int (nI ca)]), (g, zO 2 [.ref av, .ref an, .int (nI n), .int st]), (av, zI G 12 (fun j => nI (V j))), (bn, zF G 16 fB), (bl, zF G 13 fL), (ad.1, zO 0 [.ref ad.2.1, .ref ad.2.2.1, .ref ad.2.2.2.1, .ref ad.2.2.2.2, .int (nI 0), .int (nI 1), .int (nI 1), .null]), (ad.2.1, zI G 4 (fun j => nI ((fun _ => 0) j))), (ad.2.2.1, zI G 4 (fun j => nI ((fun _ => 0) j))), (ad.2.2.2.1, zI G 256 (fun j => nI ((rowF (fun _ => 0) (fun _ => 1) 256) j))), (ad.2.2.2.2, zI G 256 (fun j => nI ((rowF (fun _ => 0) (fun _ => 1) 256) j)))] ++ poolx G X nf 16)) (by rw [had]; rfl)
    refine lv_aload_n hx hb dFs_add_32 rfl (lv_at hl 1 rfl) ?_
    refine lv_iload_n hx hb dFs_add_33 rfl (lv_at hl 4 rfl) ?_
    refine lv_aload_n hx hb dFs_add_34 rfl (lv_at hl 3 rfl) ?_
    refine gf_Fs_20 Sf w.1 0 rfl rfl dFs_add_35 ?_
    have w := (w.permT (ws' := [(ad.1, zO 0 [.ref ad.2.1, .ref ad.2.2.1, .ref ad.2.2.2.1, .ref ad.2.2.2.2, .int (nI 0), .int (nI 1), .int (nI 1), .null]), (g, zO 2 [.ref av, .ref an, .int (nI n), .int st]), (av, zI G 12 (fun j => nI (V j))), (ad.2.1, zI G 4 (fun j => nI ((fun _ => 0) j))), (ad.2.2.1, zI G 4 (fun j => nI ((fun _ => 0) j))), (fz, zO 1 [.ref g, .ref bn, .ref bl, .int (nI nf), .int (nI ca)]), (bn, zF G 16 fB), (bl, zF G 13 fL), (ad.2.2.2.1, zI G 256 (fun j => nI ((rowF (fun _ => 0) (fun _ => 1) 256) j))), (ad.2.2.2.2, zI G 256 (fun j => nI ((rowF (fun _ => 0) (fun _ => 1) 256) j)))]) [5, 1, 2, 6, 7, 0, 3, 4, 8, 9] (by decide) rfl).eq (ws' := [(ad.1, zO 0 [.ref ad.2.1, .ref ad.2.2.1, .ref ad.2.2.2.1, .ref ad.2.2.2.2, .int (nI 0), .int (nI 1), .int (nI 1), .null]), (g, zO 2 [.ref av, .ref an, .int (nI n), .int st]), (av, zI G 12 (fun j => nI (V j))), (ad.2.1, zI G 4 (fun j => nI ((fun _ => 0) j))), (ad.2.2.1, zI G 4 (fun j => nI ((fun _ => 0) j)))] ++ ([(fz, zO 1 [.ref g, .ref bn, .ref bl, .int (nI nf), .int (nI ca)]), (bn, zF G 16 fB), (bl, zF G 13 fL), (ad.2.2.2.1, zI G 256 (fun j => nI ((rowF (fun _ => 0) (fun _ => 1) 256) j))), (ad.2.2.2.2, zI G 256 (fun j => nI ((rowF (fun _ => 0) (fun _ => 1) 256) j)))] ++ poolx G X nf 16)) rfl
    refine z_wV (wr := ([(fz, zO 1 [.ref g, .ref bn, .ref bl, .int (nI nf), .int (nI ca)]), (bn, zF G 16 fB), (bl, zF G 13 fL), (ad.2.2.2.1, zI G 256 (fun j => nI ((rowF (fun _ => 0) (fun _ => 1) 256) j))), (ad.2.2.2.2, zI G 256 (fun j => nI ((rowF (fun _ => 0) (fun _ => 1) 256) j)))] ++ poolx G X nf 16)) (As := [.int (nI S), .ref g]) (rest := []) Sf (c_Factor_spanNames l G ad.1 ad.2.1 ad.2.2.1 ad.2.2.2.1 ad.2.2.2.2 none 1 g av an n st V S (by first | assumption | omega) (by first | assumption | omega) (by first | assumption | omega) H.size) mv_Fs_33 ⟨rfl, rfl⟩ ⟨Nat.le_of_ble_eq_true rfl, Nat.le_of_ble_eq_true rfl⟩ w _ _ (zsplC [(ad.1, zO 0 [.ref ad.2.1, .ref ad.2.2.1, .ref ad.2.2.2.1, .ref ad.2.2.2.2, .int (nI 0), .int (nI 1), .int (nI 1), .null]), (g, zO 2 [.ref av, .ref an, .int (nI n), .int st]), (av, zI G 12 (fun j => nI (V j))), (ad.2.1, zI G 4 (fun j => nI ((fun _ => 0) j))), (ad.2.2.1, zI G 4 (fun j => nI ((fun _ => 0) j)))] ([(fz, zO 1 [.ref g, .ref bn, .ref bl, .int (nI nf), .int (nI ca)]), (bn, zF G 16 fB), (bl, zF G 13 fL), (ad.2.2.2.1, zI G 256 (fun j => nI ((rowF (fun _ => 0) (fun _ => 1) 256) j))), (ad.2.2.2.2, zI G 256 (fun j => nI ((rowF (fun _ => 0) (fun _ => 1) 256) j)))] ++ poolx G X nf 16)) (zsplR [(ad.1, zO 0 [.ref ad.2.1, .ref ad.2.2.1, .ref ad.2.2.2.1, .ref ad.2.2.2.2, .int (nI 0), .int (nI 1), .int (nI 1), .null]), (g, zO 2 [.ref av, .ref an, .int (nI n), .int st]), (av, zI G 12 (fun j => nI (V j))), (ad.2.1, zI G 4 (fun j => nI ((fun _ => 0) j))), (ad.2.2.1, zI G 4 (fun j => nI ((fun _ => 0) j)))] ([(fz, zO 1 [.ref g, .ref bn, .ref bl, .int (nI nf), .int (nI ca)]), (bn, zF G 16 fB), (bl, zF G 13 fL), (ad.2.2.2.1, zI G 256 (fun j => nI ((rowF (fun _ => 0) (fun _ => 1) 256) j))), (ad.2.2.2.2, zI G 256 (fun j => nI ((rowF (fun _ => 0) (fun _ => 1) 256) j)))] ++ poolx G X nf 16)) (znd1 _) (znd2 _ _) (zdis _ _) 0 rfl rfl rfl rfl hl.1 rfl (Nat.le_of_ble_eq_true rfl) dFs_add_38 ⟨Nat.le_of_ble_eq_true rfl, Nat.le_of_ble_eq_true rfl⟩ (fun u1 H locs hu1 w => ?_)
    have w := (w.of_perm List.perm_append_comm).eq (ws' := ([(ad.1, zO 0 [.ref ad.2.1, .ref ad.2.2.1, .ref ad.2.2.2.1, .ref ad.2.2.2.2, .int (nI ((fiR V S n).1)), .int (nI (cellsF V S n)), .int (nI 1), va_rf none]), (g, zO 2 [.ref av, .ref an, .int (nI n), .int st]), (av, zI G 12 (fun j => nI (V j))), (ad.2.1, zI G 4 (fun j => nI (((fiR V S n).2.1) j))), (ad.2.2.1, zI G 4 (fun j => nI (((fiR V S n).2.2) j))), (fz, zO 1 [.ref g, .ref bn, .ref bl, .int (nI nf), .int (nI ca)]), (bn, zF G 16 fB), (bl, zF G 13 fL), (ad.2.2.2.1, zI G 256 (fun j => nI ((rowF (fun _ => 0) (fun _ => 1) 256) j))), (ad.2.2.2.2, zI G 256 (fun j => nI ((rowF (fun _ => 0) (fun _ => 1) 256) j)))] ++ poolx G X nf 16)) rfl
    refine W.eq (g2 := F0 m 41 ls []) rfl ?_
    refine lv_aload_n hx hb dFs_add_41 rfl (lv_at hl 1 rfl) ?_
    refine lv_aload_n hx hb dFs_add_42 rfl (lv_at hl 3 rfl) ?_
    refine gf_Fs_17 Sf w.1 5 rfl rfl dFs_add_43 ?_
    refine lv_iload hx hb dFs_add_46 (lv_at hl 0 rfl) ?_
    refine z_aald hx hb w.1 7 (k := (alF S 12)) rfl (by omega) (by omega) dFs_add_48 ?_
    refine pf_Fs_37 Sf w 0 rfl (by generalize fL (alF S 12) = o; cases o <;> rfl) (by generalize fL (alF S 12) = o; cases o <;> rfl) (Nat.le_of_ble_eq_true rfl) (ws' := ([(ad.1, zO 0 [.ref ad.2.1, .ref ad.2.2.1, .ref ad.2.2.2.1, .ref ad.2.2.2.2, .int (nI ((fiR V S n).1)), .int (nI (cellsF V S n)), .int (nI 1), va_rf (fL (alF S 12))]), (g, zO 2 [.ref av, .ref an, .int (nI n), .int st]), (av, zI G 12 (fun j => nI (V j))), (ad.2.1, zI G 4 (fun j => nI (((fiR V S n).2.1) j))), (ad.2.2.1, zI G 4 (fun j => nI (((fiR V S n).2.2) j))), (fz, zO 1 [.ref g, .ref bn, .ref bl, .int (nI nf), .int (nI ca)]), (bn, zF G 16 fB), (bl, zF G 13 fL), (ad.2.2.2.1, zI G 256 (fun j => nI ((rowF (fun _ => 0) (fun _ => 1) 256) j))), (ad.2.2.2.2, zI G 256 (fun j => nI ((rowF (fun _ => 0) (fun _ => 1) 256) j)))] ++ poolx G X nf 16)) rfl dFs_add_49 (fun H locs w => ?_)
    refine lv_aload_n hx hb dFs_add_52 rfl (lv_at hl 3 rfl) ?_
    refine gf_Fs_17 Sf w.1 5 rfl rfl dFs_add_53 ?_
    refine lv_iload hx hb dFs_add_56 (lv_at hl 0 rfl) ?_
    refine lv_aload_n hx hb dFs_add_58 rfl (lv_at hl 1 rfl) ?_
    refine z_aast hx hb w 7 0 (k := (alF S 12)) rfl rfl rfl rfl (by omega) (by omega) (ws' := ([(ad.1, zO 0 [.ref ad.2.1, .ref ad.2.2.1, .ref ad.2.2.2.1, .ref ad.2.2.2.2, .int (nI ((fiR V S n).1)), .int (nI (cellsF V S n)), .int (nI 1), va_rf (fL (alF S 12))]), (g, zO 2 [.ref av, .ref an, .int (nI n), .int st]), (av, zI G 12 (fun j => nI (V j))), (ad.2.1, zI G 4 (fun j => nI (((fiR V S n).2.1) j))), (ad.2.2.1, zI G 4 (fun j => nI (((fiR V S n).2.2) j))), (fz, zO 1 [.ref g, .ref bn, .ref bl, .int (nI nf), .int (nI ca)]), (bn, zF G 16 fB), (bl, zF G 13 (va_up fL (alF S 12) (some ad.1))), (ad.2.2.2.1, zI G 256 (fun j => nI ((rowF (fun _ => 0) (fun _ => 1) 256) j))), (ad.2.2.2.2, zI G 256 (fun j => nI ((rowF (fun _ => 0) (fun _ => 1) 256) j)))] ++ poolx G X nf 16)) rfl dFs_add_59 (fun H locs w => ?_)
    refine lv_aload_n hx hb dFs_add_60 rfl (lv_at hl 3 rfl) ?_
    refine lv_iload_n hx hb dFs_add_61 rfl (lv_at hl 2 rfl) ?_
    refine lv_iconst (v := (nI 1)) hx hb dFs_add_62 (by decide) ?_
    refine z_addN hx hb dFs_add_63 ?_
    refine pf_Fs_25 Sf w 5 rfl rfl rfl (Nat.le_of_ble_eq_true rfl) (ws' := ([(ad.1, zO 0 [.ref ad.2.1, .ref ad.2.2.1, .ref ad.2.2.2.1, .ref ad.2.2.2.2, .int (nI ((fiR V S n).1)), .int (nI (cellsF V S n)), .int (nI 1), va_rf (fL (alF S 12))]), (g, zO 2 [.ref av, .ref an, .int (nI n), .int st]), (av, zI G 12 (fun j => nI (V j))), (ad.2.1, zI G 4 (fun j => nI (((fiR V S n).2.1) j))), (ad.2.2.1, zI G 4 (fun j => nI (((fiR V S n).2.2) j))), (fz, zO 1 [.ref g, .ref bn, .ref bl, .int (nI (nf + 1)), .int (nI ca)]), (bn, zF G 16 fB), (bl, zF G 13 (va_up fL (alF S 12) (some ad.1))), (ad.2.2.2.1, zI G 256 (fun j => nI ((rowF (fun _ => 0) (fun _ => 1) 256) j))), (ad.2.2.2.2, zI G 256 (fun j => nI ((rowF (fun _ => 0) (fun _ => 1) 256) j)))] ++ poolx G X nf 16)) rfl dFs_add_64 (fun H locs w => ?_)
    refine lv_aload_n hx hb dFs_add_67 rfl (lv_at hl 3 rfl) ?_
    refine lv_dup hx hb dFs_add_68 rfl ?_
    refine gf_Fs_41 Sf w.1 5 rfl rfl dFs_add_69 ?_
    refine lv_iconst (v := (nI 1)) hx hb dFs_add_72 (by decide) ?_
    refine z_addN hx hb dFs_add_73 ?_
    refine pf_Fs_41 Sf w 5 rfl rfl rfl (Nat.le_of_ble_eq_true rfl) (ws' := ([(ad.1, zO 0 [.ref ad.2.1, .ref ad.2.2.1, .ref ad.2.2.2.1, .ref ad.2.2.2.2, .int (nI ((fiR V S n).1)), .int (nI (cellsF V S n)), .int (nI 1), va_rf (fL (alF S 12))]), (g, zO 2 [.ref av, .ref an, .int (nI n), .int st]), (av, zI G 12 (fun j => nI (V j))), (ad.2.1, zI G 4 (fun j => nI (((fiR V S n).2.1) j))), (ad.2.2.1, zI G 4 (fun j => nI (((fiR V S n).2.2) j))), (fz, zO 1 [.ref g, .ref bn, .ref bl, .int (nI (nf + 1)), .int (nI (ca + 1))]), (bn, zF G 16 fB), (bl, zF G 13 (va_up fL (alF S 12) (some ad.1))), (ad.2.2.2.1, zI G 256 (fun j => nI ((rowF (fun _ => 0) (fun _ => 1) 256) j))), (ad.2.2.2.2, zI G 256 (fun j => nI ((rowF (fun _ => 0) (fun _ => 1) 256) j)))] ++ poolx G X nf 16)) rfl dFs_add_74 (fun H locs w => ?_)
    have w := w.permT (ws' := [(fz, zO 1 [.ref g, .ref bn, .ref bl, .int (nI (nf + 1)), .int (nI (ca + 1))]), (g, zO 2 [.ref av, .ref an, .int (nI n), .int st]), (av, zI G 12 (fun j => nI (V j))), (bn, zF G 16 fB), (bl, zF G 13 (va_up fL (alF S 12) (some ad.1))), (ad.1, zO 0 [.ref ad.2.1, .ref ad.2.2.1, .ref ad.2.2.2.1, .ref ad.2.2.2.2, .int (nI ((fiR V S n).1)), .int (nI (cellsF V S n)), .int (nI 1), va_rf (fL (alF S 12))]), (ad.2.1, zI G 4 (fun j => nI (((fiR V S n).2.1) j))), (ad.2.2.1, zI G 4 (fun j => nI (((fiR V S n).2.2) j))), (ad.2.2.2.1, zI G 256 (fun j => nI ((rowF (fun _ => 0) (fun _ => 1) 256) j))), (ad.2.2.2.2, zI G 256 (fun j => nI ((rowF (fun _ => 0) (fun _ => 1) 256) j)))]) [5, 1, 2, 6, 7, 0, 3, 4, 8, 9] (by decide) rfl
    have w := (w.eq (ws' := [(fz, zO 1 [.ref g, .ref bn, .ref bl, .int (nI (nf + 1)), .int (nI (ca + 1))]), (g, zO 2 [.ref av, .ref an, .int (nI n), .int st]), (av, zI G 12 (fun j => nI (V j))), (bn, zF G 16 fB), (bl, zF G 13 (va_up fL (alF S 12) (some ad.1)))] ++ (fcl G (nwF ad (fL (alF S 12)) V S n) ++ poolx G X nf 16)) rfl).of_perm (pool_put [(fz, zO 1 [.ref g, .ref bn, .ref bl, .int (nI (nf + 1)), .int (nI (ca + 1))]), (g, zO 2 [.ref av, .ref an, .int (nI n), .int st]), (av, zI G 12 (fun j => nI (V j))), (bn, zF G 16 fB), (bl, zF G 13 (va_up fL (alF S 12) (some ad.1)))] hnf)
    refine lv_iload_n hx hb dFs_add_77 rfl (lv_at hl 2 rfl) ?_
    exact hret _ _ _ _ () _ _ w (rfl) (trivial) dFs_add_78 (rfl)
