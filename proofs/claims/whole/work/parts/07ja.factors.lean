def rm_Fs_init : Room := { frames := 2, cells := 82, slots := 8477, locals := 60 }
set_option maxHeartbeats 4000000 in
set_option maxRecDepth 100000 in
theorem c_Fs_init (l : Launch) (G : zG) (fz g : Nat)  (sz : Nat) : Met l yFs_init (.code yFs_init cFs_init 3 none :: zT) rm_Fs_init (zPw G [.ref fz, .ref g] [(fz, zO 1 [.null, .null, .null, .int (nI 0), .int (nI 0)])] sz) (zQ (S := (Nat × Nat) × (Nat → fR)) G (fun u => none) (fun u => ([(fz, zO 1 [.ref g, .ref u.1.1, .ref u.1.2, .int (nI 0), .int (nI 0)]), (u.1.1, zF G 16 (fbR u.2 16)), (u.1.2, zF G 13 (fun _ => none))] ++ pool G u.2 16)) (va_A [(fz, zO 1 [.null, .null, .null, .int (nI 0), .int (nI 0)])] sz) (fun u => ∀ j, j < 16 → ∃ ad, u.2 j = frF ad)) 82 8477 (va_A [(fz, zO 1 [.null, .null, .null, .int (nI 0), .int (nI 0)])] sz) := by
  refine z_metWv (by decide) (Nat.le_of_ble_eq_true rfl) (fun p e s m args below meth c ls A Q Sf hnm w hl hret => ?_)
  obtain ⟨H, hH⟩ : ∃ H, H = s.heap := ⟨_, rfl⟩
  obtain ⟨locs, hlo⟩ : ∃ L : List Loc, L = [] := ⟨_, rfl⟩
  rw [← hH, ← hlo] at w
  rw [← hH, ← hlo]
  clear hH hlo
  have Sf : CallFix p m c cFs_init 3 s args zT RFs := Sf
  have hx := Sf.1
  have hb := Sf.2.1
  have hown := Sf.2.2.2.1
  have hts := Sf.2.2.2.2
  have hl : lv_has ls 3 [(0, .ref fz), (1, .ref g)] := hl
  refine lv_aload_n hx hb dFs_init_0 rfl (lv_at hl 0 rfl) ?_
  refine W.objInit hx hb hown (hts _ oi_Fs_3) (hts _ oi_inst) (hts _ oi_code) rfl (by rw [Sf.2.2.1]; exact hl.1) rfl dFs_init_1 (Nat.le_of_ble_eq_true rfl) (Nat.le_of_ble_eq_true rfl) ?_
  refine W.eq (g2 := F0 m 4 ls []) rfl ?_
  refine lv_aload_n hx hb dFs_init_4 rfl (lv_at hl 0 rfl) ?_
  refine lv_bipush (v := nI 16) hx hb dFs_init_5 (by decide) ?_
  refine z_newq hx hb hown hts ca_Fs_9 w (N := 16) (by decide) (by decide) (by decide) dFs_init_7 (fun q1 H w => ?_)
  have w := w.eq (ws' := [(fz, zO 1 [.null, .null, .null, .int (nI 0), .int (nI 0)]), (q1, zF G 16 (fun _ => none))]) rfl
  refine pf_Fs_11 Sf hnm w 0 rfl rfl rfl (Nat.le_of_ble_eq_true rfl) (ws' := [(fz, zO 1 [.null, .ref q1, .null, .int (nI 0), .int (nI 0)]), (q1, zF G 16 (fun _ => none))]) rfl dFs_init_10 (fun H locs w => ?_)
  refine lv_aload_n hx hb dFs_init_13 rfl (lv_at hl 0 rfl) ?_
  refine lv_bipush (v := nI 13) hx hb dFs_init_14 (by decide) ?_
  refine z_newq hx hb hown hts ca_Fs_9 w (N := 13) (by decide) (by decide) (by decide) dFs_init_16 (fun q2 H w => ?_)
  have w := w.eq (ws' := [(fz, zO 1 [.null, .ref q1, .null, .int (nI 0), .int (nI 0)]), (q1, zF G 16 (fun _ => none)), (q2, zF G 13 (fun _ => none))]) rfl
  refine pf_Fs_17 Sf hnm w 0 rfl rfl rfl (Nat.le_of_ble_eq_true rfl) (ws' := [(fz, zO 1 [.null, .ref q1, .ref q2, .int (nI 0), .int (nI 0)]), (q1, zF G 16 (fun _ => none)), (q2, zF G 13 (fun _ => none))]) rfl dFs_init_19 (fun H locs w => ?_)
  refine lv_aload_n hx hb dFs_init_22 rfl (lv_at hl 0 rfl) ?_
  refine lv_aload_n hx hb dFs_init_23 rfl (lv_at hl 1 rfl) ?_
  refine pf_Fs_20 Sf hnm w 0 rfl rfl rfl (Nat.le_of_ble_eq_true rfl) (ws' := [(fz, zO 1 [.ref g, .ref q1, .ref q2, .int (nI 0), .int (nI 0)]), (q1, zF G 16 (fun _ => none)), (q2, zF G 13 (fun _ => none))]) rfl dFs_init_24 (fun H locs w => ?_)
  refine lv_iconst (v := (nI 0)) hx hb dFs_init_27 (by decide) ?_
  refine lv_istore_n (lv' := [(2, .int (nI 0)), (0, .ref fz), (1, .ref g)]) hx hb dFs_init_28 rfl hl (by decide) rfl (fun ls hl => ?_)
  have L29 : ∀ (fu29 : Nat) (i : Nat) (F : Nat → Option Nat) (X : Nat → fR), (i ≤ 16) → (F = fbR X i) → (∀ j, j < i → ∃ ad, X j = frF ad) → (16 - i) < fu29 → ∀ (H : Heap) (locs : List Loc), zw G A s ([(fz, zO 1 [.ref g, .ref q1, .ref q2, .int (nI 0), .int (nI 0)]), (q1, zF G 16 F), (q2, zF G 13 (fun _ => none))] ++ pool G X i) H locs → ∀ (ls : Array Slot), lv_has ls 3 [(2, .int (nI i)), (0, .ref fz), (1, .ref g)] → W p l e rm_Fs_init s m args below meth c H locs (2 + i * 5) (29 + i * 528) Q (F0 m 29 ls []) := by
    intro fu29
    induction fu29 with
    | zero =>
      intro i F X hi hF hfr hm29
      exact absurd hm29 (Nat.not_lt_zero _)
    | succ fu29 ih29 =>
      intro i F X hi hF hfr hm29 H locs w ls hl
      refine lv_iload_n hx hb dFs_init_29 rfl (lv_at hl 0 rfl) ?_
      refine lv_bipush (v := nI 16) hx hb dFs_init_30 (by decide) ?_
      refine z_icmpge (tgt := 54) hx hb (by omega) (by omega) dFs_init_32 (by decide) (fun c32 => ?_) (fun c32 => ?_)
      · skip
        obtain rfl : i = 16 := by omega
        refine W.widen (k := 82) (n := 8477) (by omega) (by omega) ?_
        exact hret _ _ _ _ ((q1, q2), X) _ w (by rw [hF]) (hfr) dFs_init_54 rfl
      · skip
        refine lv_aload_n hx hb dFs_init_35 rfl (lv_at hl 1 rfl) ?_
        refine gf_Fs_11 Sf w.1 0 rfl rfl dFs_init_36 ?_
        refine lv_iload_n hx hb dFs_init_39 rfl (lv_at hl 0 rfl) ?_
        refine nw_Fs_9 Sf w (by show _ ≤ 82; omega) (by show _ ≤ 8477; omega) dFs_init_40 (fun q3 H w => ?_)
        have w := (w.of_perm List.perm_append_comm).eq (ws' := ([(q3, zO 0 [.null, .null, .null, .null, .int (nI 0), .int (nI 0), .int (nI 0), .null]), (fz, zO 1 [.ref g, .ref q1, .ref q2, .int (nI 0), .int (nI 0)]), (q1, zF G 16 F), (q2, zF G 13 (fun _ => none))] ++ pool G X i)) rfl
        refine lv_dup hx hb dFs_init_43 rfl ?_
        have w := (w.permT (ws' := [(q3, zO 0 [.null, .null, .null, .null, .int (nI 0), .int (nI 0), .int (nI 0), .null]), (fz, zO 1 [.ref g, .ref q1, .ref q2, .int (nI 0), .int (nI 0)]), (q1, zF G 16 F), (q2, zF G 13 (fun _ => none))]) [0, 1, 2, 3] (by decide) rfl).eq (ws' := [(q3, zO 0 [.null, .null, .null, .null, .int (nI 0), .int (nI 0), .int (nI 0), .null])] ++ ([(fz, zO 1 [.ref g, .ref q1, .ref q2, .int (nI 0), .int (nI 0)]), (q1, zF G 16 F), (q2, zF G 13 (fun _ => none))] ++ pool G X i)) rfl
        refine z_wI (wr := ([(fz, zO 1 [.ref g, .ref q1, .ref q2, .int (nI 0), .int (nI 0)]), (q1, zF G 16 F), (q2, zF G 13 (fun _ => none))] ++ pool G X i)) (As := []) (rest := [.ref q3, .int (nI i), .ref q1]) Sf (c_Factor_init l G q3  H.size) mv_Fs_24 ⟨rfl, rfl⟩ ⟨Nat.le_of_ble_eq_true rfl, Nat.le_of_ble_eq_true rfl⟩ w _ _ (zsplC [(q3, zO 0 [.null, .null, .null, .null, .int (nI 0), .int (nI 0), .int (nI 0), .null])] ([(fz, zO 1 [.ref g, .ref q1, .ref q2, .int (nI 0), .int (nI 0)]), (q1, zF G 16 F), (q2, zF G 13 (fun _ => none))] ++ pool G X i)) (zsplR [(q3, zO 0 [.null, .null, .null, .null, .int (nI 0), .int (nI 0), .int (nI 0), .null])] ([(fz, zO 1 [.ref g, .ref q1, .ref q2, .int (nI 0), .int (nI 0)]), (q1, zF G 16 F), (q2, zF G 13 (fun _ => none))] ++ pool G X i)) (znd1 _) (znd2 _ _) (zdis _ _) rfl hl.1 rfl (Nat.le_of_ble_eq_true rfl) dFs_init_44 ⟨(by show _ ≤ 82; omega), (by show _ ≤ 8477; omega)⟩ (fun u4 H locs hu4 w => ?_)
        have w := (w.of_perm List.perm_append_comm).eq (ws' := ([(q3, zO 0 [.ref u4.1, .ref u4.2.1, .ref u4.2.2.1, .ref u4.2.2.2, .int (nI 0), .int (nI 1), .int (nI 1), .null]), (u4.1, zI G 4 (fun j => nI ((fun _ => 0) j))), (u4.2.1, zI G 4 (fun j => nI ((fun _ => 0) j))), (u4.2.2.1, zI G 256 (fun j => nI ((rowF (fun _ => 0) (fun _ => 1) 256) j))), (u4.2.2.2, zI G 256 (fun j => nI ((rowF (fun _ => 0) (fun _ => 1) 256) j))), (fz, zO 1 [.ref g, .ref q1, .ref q2, .int (nI 0), .int (nI 0)]), (q1, zF G 16 F), (q2, zF G 13 (fun _ => none))] ++ pool G X i)) rfl
        refine W.eq (g2 := F0 m 47 ls [.ref q3, .int (nI i), .ref q1]) rfl ?_
        refine z_aast hx hb w 6 0 (k := i) rfl rfl rfl rfl (by omega) (by omega) (ws' := ([(q3, zO 0 [.ref u4.1, .ref u4.2.1, .ref u4.2.2.1, .ref u4.2.2.2, .int (nI 0), .int (nI 1), .int (nI 1), .null]), (u4.1, zI G 4 (fun j => nI ((fun _ => 0) j))), (u4.2.1, zI G 4 (fun j => nI ((fun _ => 0) j))), (u4.2.2.1, zI G 256 (fun j => nI ((rowF (fun _ => 0) (fun _ => 1) 256) j))), (u4.2.2.2, zI G 256 (fun j => nI ((rowF (fun _ => 0) (fun _ => 1) 256) j))), (fz, zO 1 [.ref g, .ref q1, .ref q2, .int (nI 0), .int (nI 0)]), (q1, zF G 16 (va_up F i (some q3))), (q2, zF G 13 (fun _ => none))] ++ pool G X i)) rfl dFs_init_47 (fun H locs w => ?_)
        have w := w.permT (ws' := [(fz, zO 1 [.ref g, .ref q1, .ref q2, .int (nI 0), .int (nI 0)]), (q1, zF G 16 (va_up F i (some q3))), (q2, zF G 13 (fun _ => none)), (q3, zO 0 [.ref u4.1, .ref u4.2.1, .ref u4.2.2.1, .ref u4.2.2.2, .int (nI 0), .int (nI 1), .int (nI 1), .null]), (u4.1, zI G 4 (fun j => nI ((fun _ => 0) j))), (u4.2.1, zI G 4 (fun j => nI ((fun _ => 0) j))), (u4.2.2.1, zI G 256 (fun j => nI ((rowF (fun _ => 0) (fun _ => 1) 256) j))), (u4.2.2.2, zI G 256 (fun j => nI ((rowF (fun _ => 0) (fun _ => 1) 256) j)))]) [5, 6, 7, 0, 1, 2, 3, 4] (by decide) rfl
        have w := (w.eq (ws' := [(fz, zO 1 [.ref g, .ref q1, .ref q2, .int (nI 0), .int (nI 0)]), (q1, zF G 16 (va_up F i (some q3))), (q2, zF G 13 (fun _ => none))] ++ (fcl G (frF (q3, u4.1, u4.2.1, u4.2.2.1, u4.2.2.2)) ++ pool G X i)) rfl).of_perm (pool_add [(fz, zO 1 [.ref g, .ref q1, .ref q2, .int (nI 0), .int (nI 0)]), (q1, zF G 16 (va_up F i (some q3))), (q2, zF G 13 (fun _ => none))])
        refine z_iinc (d := 1) (lv' := [(2, .int (nI (i + 1))), (0, .ref fz), (1, .ref g)]) hx hb dFs_init_48 hl (k := 0) rfl (by decide) (by decide) rfl (fun ls hl => ?_)
        refine lv_goto (tgt := 29) hx hb dFs_init_51 (by decide) ?_
        refine W.widen (k := 2 + (i + 1) * 5) (n := 29 + (i + 1) * 528) (by omega) (by omega) ?_
        refine ih29 (i + 1) (va_up F i (some q3)) (va_up X i (frF (q3, u4.1, u4.2.1, u4.2.2.1, u4.2.2.2))) ?_ ?_ ?_ ?_ _ _ w ls (lv_sub hl [0, 1, 2] rfl)
        · omega
        · rw [hF, ← fbR_s]; first | done | rfl
        · exact fun j hj => by
            by_cases q : j = i
            · rw [q, va_up_self]; exact ⟨_, rfl⟩
            · rw [va_up_ne _ _ q]; exact hfr j (by omega)
        · omega
  refine W.widen (k := 2 + 0 * 5) (n := 29 + 0 * 528) (by omega) (by omega) ?_
  refine L29 ((16 - 0) + 1) 0 (fun _ => none) (fun _ => frF (0, 0, 0, 0, 0)) ?_ ?_ ?_ ?_ _ _ w ls (lv_sub hl [0, 1, 2] rfl)
  · omega
  · exact (fbR_0 _).symm
  · exact fun j hj => absurd hj (Nat.not_lt_zero _)
  · exact Nat.lt_succ_self _
