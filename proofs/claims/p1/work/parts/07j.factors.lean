def rm_Fs_add : Room := { frames := 2, cells := 5, slots := 526, locals := 66 }
set_option maxHeartbeats 4000000 in
set_option maxRecDepth 100000 in
theorem c_Fs_add (l : Launch) (G : zG) (fz g bn bl : Nat) (nf ca : Nat) (av an n : Nat) (st : Int32) (fB fL : Nat → Option Nat) (V : Nat → Nat) (S : Nat) (hn : n ≤ 12) (hnf : nf < 16) (hS : S < 4096) (hp4 : popc S ≤ 4) (hc4 : cellsF V S n ≤ 256) (sz : Nat) : Met l yFs_add (.code yFs_add cFs_add 5 (some .int) :: zT) rm_Fs_add (zPw G [.ref fz, .int (nI S)] [(fz, zO 1 [.ref g, .ref bn, .ref bl, .int (nI nf), .int (nI ca)]), (g, zO 2 [.ref av, .ref an, .int (nI n), .int st]), (av, zI G 12 (fun j => nI (V j))), (bn, zF G 16 fB), (bl, zF G 13 fL)] sz) (zQ (S := Nat × Nat × Nat × Nat × Nat) G (fun u => some (.int (nI nf))) (fun u => [(fz, zO 1 [.ref g, .ref bn, .ref bl, .int (nI (nf + 1)), .int (nI (ca + 1))]), (g, zO 2 [.ref av, .ref an, .int (nI n), .int st]), (av, zI G 12 (fun j => nI (V j))), (bn, zF G 16 (va_up fB nf (some u.1))), (bl, zF G 13 (va_up fL (alF S 12) (some u.1))), (u.1, zO 0 [.ref u.2.1, .ref u.2.2.1, .ref u.2.2.2.1, .ref u.2.2.2.2, va_rf (fL (alF S 12)), .int (nI 1)]), (u.2.1, zI G (popc S) (fun j => nI (((fiR V S n).2.1) j))), (u.2.2.1, zI G (popc S) (fun j => nI (((fiR V S n).2.2) j))), (u.2.2.2.1, zI G (cellsF V S n) (fun j => nI ((rowF (fun _ => 0) (fun _ => 1) (cellsF V S n)) j))), (u.2.2.2.2, zI G (cellsF V S n) (fun j => nI ((rowF (fun _ => 0) (fun _ => 1) (cellsF V S n)) j)))]) (va_A [(fz, zO 1 [.ref g, .ref bn, .ref bl, .int (nI nf), .int (nI ca)]), (g, zO 2 [.ref av, .ref an, .int (nI n), .int st]), (av, zI G 12 (fun j => nI (V j))), (bn, zF G 16 fB), (bl, zF G 13 fL)] sz) (fun u => True)) 5 526 (va_A [(fz, zO 1 [.ref g, .ref bn, .ref bl, .int (nI nf), .int (nI ca)]), (g, zO 2 [.ref av, .ref an, .int (nI n), .int st]), (av, zI G 12 (fun j => nI (V j))), (bn, zF G 16 fB), (bl, zF G 13 fL)] sz) := by
  refine z_metWi (by decide) (Nat.le_of_ble_eq_true rfl) (fun p e s m args below meth c ls A Q Sf hnm w hl hret => ?_)
  obtain ⟨H, hH⟩ : ∃ H, H = s.heap := ⟨_, rfl⟩
  obtain ⟨locs, hlo⟩ : ∃ L : List Loc, L = [] := ⟨_, rfl⟩
  rw [← hH, ← hlo] at w
  rw [← hH, ← hlo]
  clear hH hlo
  have Sf : CallFix p m c cFs_add 5 s args zT RFs := Sf
  have hx := Sf.1
  have hb := Sf.2.1
  have hown := Sf.2.2.2.1
  have hts := Sf.2.2.2.2
  have hl : lv_has ls 5 [(0, .ref fz), (1, .int (nI S))] := hl
  have hal := alF_le (S := S) 12
  refine lv_aload_n hx hb dFs_add_0 rfl (lv_at hl 0 rfl) ?_
  refine gf_Fs_24 Sf w.1 0 rfl rfl dFs_add_1 ?_
  refine lv_istore_n (lv' := [(2, .int (nI nf)), (0, .ref fz), (1, .int (nI S))]) hx hb dFs_add_4 rfl hl (by decide) rfl (fun ls hl => ?_)
  refine lv_iload_n hx hb dFs_add_5 rfl (lv_at hl 0 rfl) ?_
  refine lv_bipush (v := nI 16) hx hb dFs_add_6 (by decide) ?_
  refine z_icmpge (tgt := 69) hx hb (by omega) (by omega) dFs_add_8 (by decide) (fun c8 => ?_) (fun c8 => ?_)
  · skip
    exact absurd c8 (by omega)
  · skip
    refine lv_iload_n hx hb dFs_add_11 rfl (lv_at hl 2 rfl) ?_
    refine z_rS (As := [.int (nI S)]) (rest := []) Sf (c_Fs_afterLastName l G S (by first | assumption | omega)) mv_Fs_28 ⟨rfl, rfl⟩ ⟨Nat.le_of_ble_eq_true rfl, Nat.le_of_ble_eq_true rfl⟩ w.1 [] rfl rfl hl.1 rfl (Nat.le_of_ble_eq_true rfl) dFs_add_12 ⟨Nat.le_of_ble_eq_true rfl, Nat.le_of_ble_eq_true rfl⟩ ?_
    refine lv_istore_n (lv' := [(3, .int (nI (alF S 12))), (2, .int (nI nf)), (0, .ref fz), (1, .int (nI S))]) hx hb dFs_add_15 rfl hl (by decide) rfl (fun ls hl => ?_)
    refine nw_Fs_9 Sf w (by decide) (by decide) dFs_add_16 (fun q1 H w => ?_)
    have w := w.eq (ws' := [(fz, zO 1 [.ref g, .ref bn, .ref bl, .int (nI nf), .int (nI ca)]), (g, zO 2 [.ref av, .ref an, .int (nI n), .int st]), (av, zI G 12 (fun j => nI (V j))), (bn, zF G 16 fB), (bl, zF G 13 fL), (q1, zO 0 [.null, .null, .null, .null, .null, .int (nI 0)])]) rfl
    refine lv_dup hx hb dFs_add_19 rfl ?_
    refine lv_iload_n hx hb dFs_add_20 rfl (lv_at hl 3 rfl) ?_
    refine lv_aload_n hx hb dFs_add_21 rfl (lv_at hl 2 rfl) ?_
    refine gf_Fs_20 Sf w.1 0 rfl rfl dFs_add_22 ?_
    refine lv_aload_n hx hb dFs_add_25 rfl (lv_at hl 2 rfl) ?_
    refine gf_Fs_17 Sf w.1 0 rfl rfl dFs_add_26 ?_
    refine lv_iload_n hx hb dFs_add_29 rfl (lv_at hl 0 rfl) ?_
    refine z_aald hx hb w.1 4 (k := (alF S 12)) rfl (by omega) (by omega) dFs_add_30 ?_
    obtain hq | ⟨nx, hq⟩ : fL (alF S 12) = none ∨ ∃ nx, fL (alF S 12) = some nx := by
      cases h : fL (alF S 12)
      · exact Or.inl rfl
      · exact Or.inr ⟨_, rfl⟩
    · skip
      rw [hq]
      refine W.eq (g2 := F0 m 31 ls [.null, .ref g, .int (nI S), .ref q1, .ref q1]) rfl ?_
      refine z_wI (wr := [(fz, zO 1 [.ref g, .ref bn, .ref bl, .int (nI nf), .int (nI ca)]), (bn, zF G 16 fB), (bl, zF G 13 fL)]) (As := [.int (nI S), .ref g, .null]) (rest := [.ref q1]) Sf (c_Factor_initN l G q1 g av an n st V S (by first | assumption | omega) (by first | assumption | omega) (by first | assumption | omega) (by first | assumption | omega) H.size) mv_Fs_32 ⟨rfl, rfl⟩ ⟨Nat.le_of_ble_eq_true rfl, Nat.le_of_ble_eq_true rfl⟩ w [5, 1, 2] [0, 3, 4] rfl rfl (by decide) (by decide) (by decide) rfl hl.1 rfl (Nat.le_of_ble_eq_true rfl) dFs_add_31 ⟨Nat.le_of_ble_eq_true rfl, Nat.le_of_ble_eq_true rfl⟩ (fun u2 H locs hu2 w => ?_)
      have w := w.eq (ws' := [(fz, zO 1 [.ref g, .ref bn, .ref bl, .int (nI nf), .int (nI ca)]), (bn, zF G 16 fB), (bl, zF G 13 fL), (q1, zO 0 [.ref u2.1, .ref u2.2.1, .ref u2.2.2.1, .ref u2.2.2.2, .null, .int (nI 1)]), (g, zO 2 [.ref av, .ref an, .int (nI n), .int st]), (av, zI G 12 (fun j => nI (V j))), (u2.1, zI G (popc S) (fun j => nI (((fiR V S n).2.1) j))), (u2.2.1, zI G (popc S) (fun j => nI (((fiR V S n).2.2) j))), (u2.2.2.1, zI G (cellsF V S n) (fun j => nI ((rowF (fun _ => 0) (fun _ => 1) (cellsF V S n)) j))), (u2.2.2.2, zI G (cellsF V S n) (fun j => nI ((rowF (fun _ => 0) (fun _ => 1) (cellsF V S n)) j)))]) rfl
      refine W.eq (g2 := F0 m 34 ls [.ref q1]) rfl ?_
      refine lv_astore (lv' := [(4, .ref q1), (3, .int (nI (alF S 12))), (2, .int (nI nf)), (0, .ref fz), (1, .int (nI S))]) hx hb dFs_add_34 hl (by decide) rfl (fun ls hl => ?_)
      refine lv_aload_n hx hb dFs_add_36 rfl (lv_at hl 3 rfl) ?_
      refine gf_Fs_11 Sf w.1 0 rfl rfl dFs_add_37 ?_
      refine lv_iload_n hx hb dFs_add_40 rfl (lv_at hl 2 rfl) ?_
      refine lv_aload hx hb dFs_add_41 (lv_at hl 0 rfl) ?_
      refine z_aast hx hb w 1 3 (k := nf) rfl rfl rfl rfl (by omega) (by omega) (ws' := [(fz, zO 1 [.ref g, .ref bn, .ref bl, .int (nI nf), .int (nI ca)]), (bn, zF G 16 (va_up fB nf (some q1))), (bl, zF G 13 fL), (q1, zO 0 [.ref u2.1, .ref u2.2.1, .ref u2.2.2.1, .ref u2.2.2.2, .null, .int (nI 1)]), (g, zO 2 [.ref av, .ref an, .int (nI n), .int st]), (av, zI G 12 (fun j => nI (V j))), (u2.1, zI G (popc S) (fun j => nI (((fiR V S n).2.1) j))), (u2.2.1, zI G (popc S) (fun j => nI (((fiR V S n).2.2) j))), (u2.2.2.1, zI G (cellsF V S n) (fun j => nI ((rowF (fun _ => 0) (fun _ => 1) (cellsF V S n)) j))), (u2.2.2.2, zI G (cellsF V S n) (fun j => nI ((rowF (fun _ => 0) (fun _ => 1) (cellsF V S n)) j)))]) rfl dFs_add_43 (fun H locs w => ?_)
      refine lv_aload_n hx hb dFs_add_44 rfl (lv_at hl 3 rfl) ?_
      refine gf_Fs_17 Sf w.1 0 rfl rfl dFs_add_45 ?_
      refine lv_iload_n hx hb dFs_add_48 rfl (lv_at hl 1 rfl) ?_
      refine lv_aload hx hb dFs_add_49 (lv_at hl 0 rfl) ?_
      refine z_aast hx hb w 2 3 (k := (alF S 12)) rfl rfl rfl rfl (by omega) (by omega) (ws' := [(fz, zO 1 [.ref g, .ref bn, .ref bl, .int (nI nf), .int (nI ca)]), (bn, zF G 16 (va_up fB nf (some q1))), (bl, zF G 13 (va_up fL (alF S 12) (some q1))), (q1, zO 0 [.ref u2.1, .ref u2.2.1, .ref u2.2.2.1, .ref u2.2.2.2, .null, .int (nI 1)]), (g, zO 2 [.ref av, .ref an, .int (nI n), .int st]), (av, zI G 12 (fun j => nI (V j))), (u2.1, zI G (popc S) (fun j => nI (((fiR V S n).2.1) j))), (u2.2.1, zI G (popc S) (fun j => nI (((fiR V S n).2.2) j))), (u2.2.2.1, zI G (cellsF V S n) (fun j => nI ((rowF (fun _ => 0) (fun _ => 1) (cellsF V S n)) j))), (u2.2.2.2, zI G (cellsF V S n) (fun j => nI ((rowF (fun _ => 0) (fun _ => 1) (cellsF V S n)) j)))]) rfl dFs_add_51 (fun H locs w => ?_)
      refine lv_aload_n hx hb dFs_add_52 rfl (lv_at hl 3 rfl) ?_
      refine lv_iload_n hx hb dFs_add_53 rfl (lv_at hl 2 rfl) ?_
      refine lv_iconst (v := (nI 1)) hx hb dFs_add_54 (by decide) ?_
      refine z_addN hx hb dFs_add_55 ?_
      refine pf_Fs_24 Sf w 0 rfl rfl rfl (Nat.le_of_ble_eq_true rfl) (ws' := [(fz, zO 1 [.ref g, .ref bn, .ref bl, .int (nI (nf + 1)), .int (nI ca)]), (bn, zF G 16 (va_up fB nf (some q1))), (bl, zF G 13 (va_up fL (alF S 12) (some q1))), (q1, zO 0 [.ref u2.1, .ref u2.2.1, .ref u2.2.2.1, .ref u2.2.2.2, .null, .int (nI 1)]), (g, zO 2 [.ref av, .ref an, .int (nI n), .int st]), (av, zI G 12 (fun j => nI (V j))), (u2.1, zI G (popc S) (fun j => nI (((fiR V S n).2.1) j))), (u2.2.1, zI G (popc S) (fun j => nI (((fiR V S n).2.2) j))), (u2.2.2.1, zI G (cellsF V S n) (fun j => nI ((rowF (fun _ => 0) (fun _ => 1) (cellsF V S n)) j))), (u2.2.2.2, zI G (cellsF V S n) (fun j => nI ((rowF (fun _ => 0) (fun _ => 1) (cellsF V S n)) j)))]) rfl dFs_add_56 (fun H locs w => ?_)
      refine lv_aload_n hx hb dFs_add_59 rfl (lv_at hl 3 rfl) ?_
      refine lv_dup hx hb dFs_add_60 rfl ?_
      refine gf_Fs_35 Sf w.1 0 rfl rfl dFs_add_61 ?_
      refine lv_iconst (v := (nI 1)) hx hb dFs_add_64 (by decide) ?_
      refine z_addN hx hb dFs_add_65 ?_
      refine pf_Fs_35 Sf w 0 rfl rfl rfl (Nat.le_of_ble_eq_true rfl) (ws' := [(fz, zO 1 [.ref g, .ref bn, .ref bl, .int (nI (nf + 1)), .int (nI (ca + 1))]), (bn, zF G 16 (va_up fB nf (some q1))), (bl, zF G 13 (va_up fL (alF S 12) (some q1))), (q1, zO 0 [.ref u2.1, .ref u2.2.1, .ref u2.2.2.1, .ref u2.2.2.2, .null, .int (nI 1)]), (g, zO 2 [.ref av, .ref an, .int (nI n), .int st]), (av, zI G 12 (fun j => nI (V j))), (u2.1, zI G (popc S) (fun j => nI (((fiR V S n).2.1) j))), (u2.2.1, zI G (popc S) (fun j => nI (((fiR V S n).2.2) j))), (u2.2.2.1, zI G (cellsF V S n) (fun j => nI ((rowF (fun _ => 0) (fun _ => 1) (cellsF V S n)) j))), (u2.2.2.2, zI G (cellsF V S n) (fun j => nI ((rowF (fun _ => 0) (fun _ => 1) (cellsF V S n)) j)))]) rfl dFs_add_66 (fun H locs w => ?_)
      refine lv_iload_n hx hb dFs_add_69 rfl (lv_at hl 2 rfl) ?_
      have w := w.perm (ws' := [(fz, zO 1 [.ref g, .ref bn, .ref bl, .int (nI (nf + 1)), .int (nI (ca + 1))]), (g, zO 2 [.ref av, .ref an, .int (nI n), .int st]), (av, zI G 12 (fun j => nI (V j))), (bn, zF G 16 (va_up fB nf (some q1))), (bl, zF G 13 (va_up fL (alF S 12) (some q1))), (q1, zO 0 [.ref u2.1, .ref u2.2.1, .ref u2.2.2.1, .ref u2.2.2.2, .null, .int (nI 1)]), (u2.1, zI G (popc S) (fun j => nI (((fiR V S n).2.1) j))), (u2.2.1, zI G (popc S) (fun j => nI (((fiR V S n).2.2) j))), (u2.2.2.1, zI G (cellsF V S n) (fun j => nI ((rowF (fun _ => 0) (fun _ => 1) (cellsF V S n)) j))), (u2.2.2.2, zI G (cellsF V S n) (fun j => nI ((rowF (fun _ => 0) (fun _ => 1) (cellsF V S n)) j)))]) [0, 4, 5, 1, 2, 3, 6, 7, 8, 9] (by decide) rfl
      exact hret _ _ _ _ (q1, u2.1, u2.2.1, u2.2.2.1, u2.2.2.2) _ _ w (by rw [hq]; rfl) (trivial) dFs_add_70 (rfl)
    · skip
      rw [hq]
      refine W.eq (g2 := F0 m 31 ls [.ref nx, .ref g, .int (nI S), .ref q1, .ref q1]) rfl ?_
      refine z_wI (wr := [(fz, zO 1 [.ref g, .ref bn, .ref bl, .int (nI nf), .int (nI ca)]), (bn, zF G 16 fB), (bl, zF G 13 fL)]) (As := [.int (nI S), .ref g, .ref nx]) (rest := [.ref q1]) Sf (c_Factor_initR l G q1 nx g av an n st V S (by first | assumption | omega) (by first | assumption | omega) (by first | assumption | omega) (by first | assumption | omega) H.size) mv_Fs_32 ⟨rfl, rfl⟩ ⟨Nat.le_of_ble_eq_true rfl, Nat.le_of_ble_eq_true rfl⟩ w [5, 1, 2] [0, 3, 4] rfl rfl (by decide) (by decide) (by decide) rfl hl.1 rfl (Nat.le_of_ble_eq_true rfl) dFs_add_31 ⟨Nat.le_of_ble_eq_true rfl, Nat.le_of_ble_eq_true rfl⟩ (fun u3 H locs hu3 w => ?_)
      have w := w.eq (ws' := [(fz, zO 1 [.ref g, .ref bn, .ref bl, .int (nI nf), .int (nI ca)]), (bn, zF G 16 fB), (bl, zF G 13 fL), (q1, zO 0 [.ref u3.1, .ref u3.2.1, .ref u3.2.2.1, .ref u3.2.2.2, .ref nx, .int (nI 1)]), (g, zO 2 [.ref av, .ref an, .int (nI n), .int st]), (av, zI G 12 (fun j => nI (V j))), (u3.1, zI G (popc S) (fun j => nI (((fiR V S n).2.1) j))), (u3.2.1, zI G (popc S) (fun j => nI (((fiR V S n).2.2) j))), (u3.2.2.1, zI G (cellsF V S n) (fun j => nI ((rowF (fun _ => 0) (fun _ => 1) (cellsF V S n)) j))), (u3.2.2.2, zI G (cellsF V S n) (fun j => nI ((rowF (fun _ => 0) (fun _ => 1) (cellsF V S n)) j)))]) rfl
      refine W.eq (g2 := F0 m 34 ls [.ref q1]) rfl ?_
      refine lv_astore (lv' := [(4, .ref q1), (3, .int (nI (alF S 12))), (2, .int (nI nf)), (0, .ref fz), (1, .int (nI S))]) hx hb dFs_add_34 hl (by decide) rfl (fun ls hl => ?_)
      refine lv_aload_n hx hb dFs_add_36 rfl (lv_at hl 3 rfl) ?_
      refine gf_Fs_11 Sf w.1 0 rfl rfl dFs_add_37 ?_
      refine lv_iload_n hx hb dFs_add_40 rfl (lv_at hl 2 rfl) ?_
      refine lv_aload hx hb dFs_add_41 (lv_at hl 0 rfl) ?_
      refine z_aast hx hb w 1 3 (k := nf) rfl rfl rfl rfl (by omega) (by omega) (ws' := [(fz, zO 1 [.ref g, .ref bn, .ref bl, .int (nI nf), .int (nI ca)]), (bn, zF G 16 (va_up fB nf (some q1))), (bl, zF G 13 fL), (q1, zO 0 [.ref u3.1, .ref u3.2.1, .ref u3.2.2.1, .ref u3.2.2.2, .ref nx, .int (nI 1)]), (g, zO 2 [.ref av, .ref an, .int (nI n), .int st]), (av, zI G 12 (fun j => nI (V j))), (u3.1, zI G (popc S) (fun j => nI (((fiR V S n).2.1) j))), (u3.2.1, zI G (popc S) (fun j => nI (((fiR V S n).2.2) j))), (u3.2.2.1, zI G (cellsF V S n) (fun j => nI ((rowF (fun _ => 0) (fun _ => 1) (cellsF V S n)) j))), (u3.2.2.2, zI G (cellsF V S n) (fun j => nI ((rowF (fun _ => 0) (fun _ => 1) (cellsF V S n)) j)))]) rfl dFs_add_43 (fun H locs w => ?_)
      refine lv_aload_n hx hb dFs_add_44 rfl (lv_at hl 3 rfl) ?_
      refine gf_Fs_17 Sf w.1 0 rfl rfl dFs_add_45 ?_
      refine lv_iload_n hx hb dFs_add_48 rfl (lv_at hl 1 rfl) ?_
      refine lv_aload hx hb dFs_add_49 (lv_at hl 0 rfl) ?_
      refine z_aast hx hb w 2 3 (k := (alF S 12)) rfl rfl rfl rfl (by omega) (by omega) (ws' := [(fz, zO 1 [.ref g, .ref bn, .ref bl, .int (nI nf), .int (nI ca)]), (bn, zF G 16 (va_up fB nf (some q1))), (bl, zF G 13 (va_up fL (alF S 12) (some q1))), (q1, zO 0 [.ref u3.1, .ref u3.2.1, .ref u3.2.2.1, .ref u3.2.2.2, .ref nx, .int (nI 1)]), (g, zO 2 [.ref av, .ref an, .int (nI n), .int st]), (av, zI G 12 (fun j => nI (V j))), (u3.1, zI G (popc S) (fun j => nI (((fiR V S n).2.1) j))), (u3.2.1, zI G (popc S) (fun j => nI (((fiR V S n).2.2) j))), (u3.2.2.1, zI G (cellsF V S n) (fun j => nI ((rowF (fun _ => 0) (fun _ => 1) (cellsF V S n)) j))), (u3.2.2.2, zI G (cellsF V S n) (fun j => nI ((rowF (fun _ => 0) (fun _ => 1) (cellsF V S n)) j)))]) rfl dFs_add_51 (fun H locs w => ?_)
      refine lv_aload_n hx hb dFs_add_52 rfl (lv_at hl 3 rfl) ?_
      refine lv_iload_n hx hb dFs_add_53 rfl (lv_at hl 2 rfl) ?_
      refine lv_iconst (v := (nI 1)) hx hb dFs_add_54 (by decide) ?_
      refine z_addN hx hb dFs_add_55 ?_
      refine pf_Fs_24 Sf w 0 rfl rfl rfl (Nat.le_of_ble_eq_true rfl) (ws' := [(fz, zO 1 [.ref g, .ref bn, .ref bl, .int (nI (nf + 1)), .int (nI ca)]), (bn, zF G 16 (va_up fB nf (some q1))), (bl, zF G 13 (va_up fL (alF S 12) (some q1))), (q1, zO 0 [.ref u3.1, .ref u3.2.1, .ref u3.2.2.1, .ref u3.2.2.2, .ref nx, .int (nI 1)]), (g, zO 2 [.ref av, .ref an, .int (nI n), .int st]), (av, zI G 12 (fun j => nI (V j))), (u3.1, zI G (popc S) (fun j => nI (((fiR V S n).2.1) j))), (u3.2.1, zI G (popc S) (fun j => nI (((fiR V S n).2.2) j))), (u3.2.2.1, zI G (cellsF V S n) (fun j => nI ((rowF (fun _ => 0) (fun _ => 1) (cellsF V S n)) j))), (u3.2.2.2, zI G (cellsF V S n) (fun j => nI ((rowF (fun _ => 0) (fun _ => 1) (cellsF V S n)) j)))]) rfl dFs_add_56 (fun H locs w => ?_)
      refine lv_aload_n hx hb dFs_add_59 rfl (lv_at hl 3 rfl) ?_
      refine lv_dup hx hb dFs_add_60 rfl ?_
      refine gf_Fs_35 Sf w.1 0 rfl rfl dFs_add_61 ?_
      refine lv_iconst (v := (nI 1)) hx hb dFs_add_64 (by decide) ?_
      refine z_addN hx hb dFs_add_65 ?_
      refine pf_Fs_35 Sf w 0 rfl rfl rfl (Nat.le_of_ble_eq_true rfl) (ws' := [(fz, zO 1 [.ref g, .ref bn, .ref bl, .int (nI (nf + 1)), .int (nI (ca + 1))]), (bn, zF G 16 (va_up fB nf (some q1))), (bl, zF G 13 (va_up fL (alF S 12) (some q1))), (q1, zO 0 [.ref u3.1, .ref u3.2.1, .ref u3.2.2.1, .ref u3.2.2.2, .ref nx, .int (nI 1)]), (g, zO 2 [.ref av, .ref an, .int (nI n), .int st]), (av, zI G 12 (fun j => nI (V j))), (u3.1, zI G (popc S) (fun j => nI (((fiR V S n).2.1) j))), (u3.2.1, zI G (popc S) (fun j => nI (((fiR V S n).2.2) j))), (u3.2.2.1, zI G (cellsF V S n) (fun j => nI ((rowF (fun _ => 0) (fun _ => 1) (cellsF V S n)) j))), (u3.2.2.2, zI G (cellsF V S n) (fun j => nI ((rowF (fun _ => 0) (fun _ => 1) (cellsF V S n)) j)))]) rfl dFs_add_66 (fun H locs w => ?_)
      refine lv_iload_n hx hb dFs_add_69 rfl (lv_at hl 2 rfl) ?_
      have w := w.perm (ws' := [(fz, zO 1 [.ref g, .ref bn, .ref bl, .int (nI (nf + 1)), .int (nI (ca + 1))]), (g, zO 2 [.ref av, .ref an, .int (nI n), .int st]), (av, zI G 12 (fun j => nI (V j))), (bn, zF G 16 (va_up fB nf (some q1))), (bl, zF G 13 (va_up fL (alF S 12) (some q1))), (q1, zO 0 [.ref u3.1, .ref u3.2.1, .ref u3.2.2.1, .ref u3.2.2.2, .ref nx, .int (nI 1)]), (u3.1, zI G (popc S) (fun j => nI (((fiR V S n).2.1) j))), (u3.2.1, zI G (popc S) (fun j => nI (((fiR V S n).2.2) j))), (u3.2.2.1, zI G (cellsF V S n) (fun j => nI ((rowF (fun _ => 0) (fun _ => 1) (cellsF V S n)) j))), (u3.2.2.2, zI G (cellsF V S n) (fun j => nI ((rowF (fun _ => 0) (fun _ => 1) (cellsF V S n)) j)))]) [0, 4, 5, 1, 2, 3, 6, 7, 8, 9] (by decide) rfl
      exact hret _ _ _ _ (q1, u3.1, u3.2.1, u3.2.2.1, u3.2.2.2) _ _ w (by rw [hq]; rfl) (trivial) dFs_add_70 (rfl)
