def rm_Mo_apart : Room := { frames := 2, cells := 0, slots := 0, locals := 61 }
set_option maxHeartbeats 4000000 in
set_option maxRecDepth 100000 in
theorem c_Mo_apart (l : Launch) (G : zG) (m0 av ab apl ase aco aen aor aba ali ale ach ast atw ats : Nat) (n stt nf mem kd sl fi tp th : Nat) (Se Li : Nat → Nat) (x y z : Int32) (hn : n ≤ 12) (hnf : nf ≤ 16) (hSe : ∀ i, Se i < 4096) (hLi : ∀ i, Li i < 4096) (sz : Nat) : Met l yMo_apart (.code yMo_apart cMo_apart 8 (some .int) :: zT) rm_Mo_apart (zPw G [.ref m0, .int x, .int y, .int z] [(m0, zO 7 [.int (nI n), .ref av, .ref ab, .ref apl, .int (nI stt), .int (nI nf), .ref ase, .ref aco, .ref aen, .int (nI mem), .int (nI kd), .int (nI sl), .ref aor, .ref aba, .int (nI fi), .ref ali, .ref ale, .ref ach, .ref ast, .ref atw, .ref ats, .int (nI tp), .int (nI th)]), (ase, zI G 16 (fun j => nI (Se j))), (ali, zI G 12 (fun j => nI (Li j)))] sz) (zQ (S := Nat → Nat) G (fun u => some (.int (apA n nf Se Li x y z))) (fun u => [(m0, zO 7 [.int (nI n), .ref av, .ref ab, .ref apl, .int (nI stt), .int (nI nf), .ref ase, .ref aco, .ref aen, .int (nI mem), .int (nI kd), .int (nI sl), .ref aor, .ref aba, .int (nI fi), .ref ali, .ref ale, .ref ach, .ref ast, .ref atw, .ref ats, .int (nI tp), .int (nI 0)]), (ase, zI G 16 (fun j => nI (Se j))), (ali, zI G 12 (fun j => nI (u j)))]) (va_A [(m0, zO 7 [.int (nI n), .ref av, .ref ab, .ref apl, .int (nI stt), .int (nI nf), .ref ase, .ref aco, .ref aen, .int (nI mem), .int (nI kd), .int (nI sl), .ref aor, .ref aba, .int (nI fi), .ref ali, .ref ale, .ref ach, .ref ast, .ref atw, .ref ats, .int (nI tp), .int (nI th)]), (ase, zI G 16 (fun j => nI (Se j))), (ali, zI G 12 (fun j => nI (Li j)))] sz) (fun u => u = Li ∨ u = rowF Li (drF Se nf) n)) 0 0 (va_A [(m0, zO 7 [.int (nI n), .ref av, .ref ab, .ref apl, .int (nI stt), .int (nI nf), .ref ase, .ref aco, .ref aen, .int (nI mem), .int (nI kd), .int (nI sl), .ref aor, .ref aba, .int (nI fi), .ref ali, .ref ale, .ref ach, .ref ast, .ref atw, .ref ats, .int (nI tp), .int (nI th)]), (ase, zI G 16 (fun j => nI (Se j))), (ali, zI G 12 (fun j => nI (Li j)))] sz) := by
  refine z_metWi (by decide) (Nat.le_of_ble_eq_true rfl) (fun p e s m args below meth c ls A Q Sf hnm w hl hret => ?_)
  obtain ⟨H, hH⟩ : ∃ H, H = s.heap := ⟨_, rfl⟩
  obtain ⟨locs, hlo⟩ : ∃ L : List Loc, L = [] := ⟨_, rfl⟩
  rw [← hH, ← hlo] at w
  rw [← hH, ← hlo]
  clear hH hlo
  have Sf : CallFix p m c cMo_apart 8 s args zT RMo := Sf
  have hx := Sf.1
  have hb := Sf.2.1
  have hown := Sf.2.2.2.1
  have hts := Sf.2.2.2.2
  have hl : lv_has ls 8 [(0, .ref m0), (1, .int x), (2, .int y), (3, .int z)] := hl
  refine lv_aload_n hx hb dMo_apart_0 rfl (lv_at hl 0 rfl) ?_
  refine lv_iconst (v := (nI 0)) hx hb dMo_apart_1 (by decide) ?_
  refine pf_Mo_65 Sf w 0 rfl rfl rfl (Nat.le_of_ble_eq_true rfl) (ws' := [(m0, zO 7 [.int (nI n), .ref av, .ref ab, .ref apl, .int (nI stt), .int (nI nf), .ref ase, .ref aco, .ref aen, .int (nI mem), .int (nI kd), .int (nI sl), .ref aor, .ref aba, .int (nI fi), .ref ali, .ref ale, .ref ach, .ref ast, .ref atw, .ref ats, .int (nI tp), .int (nI 0)]), (ase, zI G 16 (fun j => nI (Se j))), (ali, zI G 12 (fun j => nI (Li j)))]) rfl dMo_apart_2 (fun H locs w => ?_)
  refine lv_aload_n hx hb dMo_apart_5 rfl (lv_at hl 0 rfl) ?_
  refine lv_iload_n hx hb dMo_apart_6 rfl (lv_at hl 1 rfl) ?_
  refine z_rV (As := [.int x]) (rest := []) Sf (c_Mo_isName l G m0 av ab apl ase aco aen aor aba ali ale ach ast atw ats n stt nf mem kd sl fi tp 0 x (by first | assumption | omega)) mv_Mo_104 ⟨rfl, rfl⟩ ⟨Nat.le_of_ble_eq_true rfl, Nat.le_of_ble_eq_true rfl⟩ w.1 [0] rfl 0 rfl rfl rfl rfl hl.1 rfl (Nat.le_of_ble_eq_true rfl) dMo_apart_7 ⟨Nat.le_of_ble_eq_true rfl, Nat.le_of_ble_eq_true rfl⟩ ?_
  refine z_ifeqB (tgt := 29) hx hb dMo_apart_10 (by decide) (fun c10 => ?_) (fun c10 => ?_)
  · skip
    have hnok : ¬ apOk n x y z := fun h => c10 h.1
    refine lv_iconst (v := (mI 0)) hx hb dMo_apart_29 (by decide) ?_
    exact hret _ _ _ _ Li _ _ w (rfl) (Or.inl rfl) dMo_apart_30 (by unfold apA; rw [zif_f hnok, mI_0])
  · skip
    obtain ⟨a, ha, rfl⟩ := kn_nat (by omega) c10
    have hta : tn (nI a) = a := tn_nI (by omega)
    refine lv_aload_n hx hb dMo_apart_13 rfl (lv_at hl 0 rfl) ?_
    refine lv_iload_n hx hb dMo_apart_14 rfl (lv_at hl 2 rfl) ?_
    refine z_rV (As := [.int y]) (rest := []) Sf (c_Mo_isName l G m0 av ab apl ase aco aen aor aba ali ale ach ast atw ats n stt nf mem kd sl fi tp 0 y (by first | assumption | omega)) mv_Mo_104 ⟨rfl, rfl⟩ ⟨Nat.le_of_ble_eq_true rfl, Nat.le_of_ble_eq_true rfl⟩ w.1 [0] rfl 0 rfl rfl rfl rfl hl.1 rfl (Nat.le_of_ble_eq_true rfl) dMo_apart_15 ⟨Nat.le_of_ble_eq_true rfl, Nat.le_of_ble_eq_true rfl⟩ ?_
    refine z_ifeqB (tgt := 29) hx hb dMo_apart_18 (by decide) (fun c18 => ?_) (fun c18 => ?_)
    · skip
      have hnok : ¬ apOk n (nI a) y z := fun h => c18 h.2.1
      refine lv_iconst (v := (mI 0)) hx hb dMo_apart_29 (by decide) ?_
      exact hret _ _ _ _ Li _ _ w (rfl) (Or.inl rfl) dMo_apart_30 (by unfold apA; rw [zif_f hnok, mI_0])
    · skip
      obtain ⟨b2, hb2, rfl⟩ := kn_nat (by omega) c18
      have htb : tn (nI b2) = b2 := tn_nI (by omega)
      refine lv_aload_n hx hb dMo_apart_21 rfl (lv_at hl 0 rfl) ?_
      refine lv_iload_n hx hb dMo_apart_22 rfl (lv_at hl 3 rfl) ?_
      refine z_rV (As := [.int z]) (rest := []) Sf (c_Mo_isSet l G m0 av ab apl ase aco aen aor aba ali ale ach ast atw ats n stt nf mem kd sl fi tp 0 z (by first | assumption | omega)) mv_Mo_82 ⟨rfl, rfl⟩ ⟨Nat.le_of_ble_eq_true rfl, Nat.le_of_ble_eq_true rfl⟩ w.1 [0] rfl 0 rfl rfl rfl rfl hl.1 rfl (Nat.le_of_ble_eq_true rfl) dMo_apart_23 ⟨Nat.le_of_ble_eq_true rfl, Nat.le_of_ble_eq_true rfl⟩ ?_
      refine z_ifneB (tgt := 31) hx hb dMo_apart_26 (by decide) (fun c26 => ?_) (fun c26 => ?_)
      · skip
        have hok : apOk n (nI a) (nI b2) z := ⟨c10, c18, c26⟩
        obtain ⟨S, hS, rfl⟩ := st_nat hn c26
        have h4 : 2 ^ n ≤ 4096 := Nat.pow_le_pow_right (by decide) hn
        have htS : tn (nI S) = S := tn_nI (by omega)
        refine lv_iload_n hx hb dMo_apart_31 rfl (lv_at hl 3 rfl) ?_
        refine lv_iload_n hx hb dMo_apart_32 rfl (lv_at hl 1 rfl) ?_
        refine z_shrN hx hb (by omega) (by omega) dMo_apart_33 ?_
        refine lv_iconst (v := (nI 1)) hx hb dMo_apart_34 (by decide) ?_
        refine z_and1 hx hb dMo_apart_35 ?_
        refine lv_iconst (v := (nI 1)) hx hb dMo_apart_36 (by decide) ?_
        refine z_icmpeqSB (tgt := 49) hx hb dMo_apart_37 (by decide) (fun c37 => ?_) (fun c37 => ?_)
        · skip
          refine lv_iconst (v := (nI 1)) hx hb dMo_apart_49 (by decide) ?_
          exact hret _ _ _ _ Li _ _ w (rfl) (Or.inl rfl) dMo_apart_50 (by unfold apA; rw [zif_t hok, htS, hta, htb, zif_t (by first | exact Or.inl c37 | exact Or.inr c46)])
        · skip
          refine lv_iload_n hx hb dMo_apart_40 rfl (lv_at hl 3 rfl) ?_
          refine lv_iload_n hx hb dMo_apart_41 rfl (lv_at hl 2 rfl) ?_
          refine z_shrN hx hb (by omega) (by omega) dMo_apart_42 ?_
          refine lv_iconst (v := (nI 1)) hx hb dMo_apart_43 (by decide) ?_
          refine z_and1 hx hb dMo_apart_44 ?_
          refine lv_iconst (v := (nI 1)) hx hb dMo_apart_45 (by decide) ?_
          refine z_icmpneSB (tgt := 51) hx hb dMo_apart_46 (by decide) (fun c46 => ?_) (fun c46 => ?_)
          · skip
            have hD : ∀ i, rowF Li (drF Se nf) n i < 4096 := drw_lt hLi hSe
            refine lv_aload_n hx hb dMo_apart_51 rfl (lv_at hl 0 rfl) ?_
            refine z_wV (wr := []) (As := []) (rest := []) Sf (c_Mo_draw l G m0 av ab apl ase aco aen aor aba ali ale ach ast atw ats n stt nf mem kd sl fi tp 0 Se Li (by first | assumption | omega) (by first | assumption | omega) (by first | assumption | omega) H.size) mv_Mo_130 ⟨rfl, rfl⟩ ⟨Nat.le_of_ble_eq_true rfl, Nat.le_of_ble_eq_true rfl⟩ w [0, 1, 2] [] rfl rfl (by decide) (by decide) (by decide) 0 rfl rfl rfl rfl hl.1 rfl (Nat.le_of_ble_eq_true rfl) dMo_apart_52 ⟨Nat.le_of_ble_eq_true rfl, Nat.le_of_ble_eq_true rfl⟩ (fun u1 H locs hu1 w => ?_)
            have w := w.eq (ws' := [(m0, zO 7 [.int (nI n), .ref av, .ref ab, .ref apl, .int (nI stt), .int (nI nf), .ref ase, .ref aco, .ref aen, .int (nI mem), .int (nI kd), .int (nI sl), .ref aor, .ref aba, .int (nI fi), .ref ali, .ref ale, .ref ach, .ref ast, .ref atw, .ref ats, .int (nI tp), .int (nI 0)]), (ase, zI G 16 (fun j => nI (Se j))), (ali, zI G 12 (fun j => nI ((rowF Li (drF Se nf) n) j)))]) rfl
            refine W.eq (g2 := F0 m 55 ls []) rfl ?_
            refine lv_iconst (v := (nI 1)) hx hb dMo_apart_55 (by decide) ?_
            refine lv_iload_n hx hb dMo_apart_56 rfl (lv_at hl 1 rfl) ?_
            refine z_shl1 hx hb (by omega) dMo_apart_57 ?_
            refine lv_istore (lv' := [(4, .int (nI (2 ^ a))), (0, .ref m0), (1, .int (nI a)), (2, .int (nI b2)), (3, .int (nI S))]) hx hb dMo_apart_58 hl (by decide) rfl (fun ls hl => ?_)
            refine lv_iconst (v := (nI 1)) hx hb dMo_apart_60 (by decide) ?_
            refine lv_istore (lv' := [(5, .int (nI 1)), (4, .int (nI (2 ^ a))), (0, .ref m0), (1, .int (nI a)), (2, .int (nI b2)), (3, .int (nI S))]) hx hb dMo_apart_61 hl (by decide) rfl (fun ls hl => ?_)
            have L63 : ∀ (fu63 : Nat) (k sn mo : Nat), (sn < 4096) → (mo ≤ 1) → (mo = 1 → 4096 ≤ k + sn) → (mo = 1 → apX (rowF Li (drF Se nf) n) n S k sn = apX (rowF Li (drF Se nf) n) n S 4096 (2 ^ a)) → (mo = 0 → sn = apX (rowF Li (drF Se nf) n) n S 4096 (2 ^ a)) → (4096 - sn + mo) < fu63 → ∀ (H : Heap) (locs : List Loc), zw G A s [(m0, zO 7 [.int (nI n), .ref av, .ref ab, .ref apl, .int (nI stt), .int (nI nf), .ref ase, .ref aco, .ref aen, .int (nI mem), .int (nI kd), .int (nI sl), .ref aor, .ref aba, .int (nI fi), .ref ali, .ref ale, .ref ach, .ref ast, .ref atw, .ref ats, .int (nI tp), .int (nI 0)]), (ase, zI G 16 (fun j => nI (Se j))), (ali, zI G 12 (fun j => nI ((rowF Li (drF Se nf) n) j)))] H locs → ∀ (ls : Array Slot), lv_has ls 8 [(5, .int (nI mo)), (4, .int (nI sn)), (0, .ref m0), (1, .int (nI a)), (2, .int (nI b2)), (3, .int (nI S))] → W p l e rm_Mo_apart s m args below meth c H locs 0 0 Q (F0 m 63 ls []) := by
              intro fu63
              induction fu63 with
              | zero =>
                intro k sn mo hsn hmo hk h1 h0 hm63
                exact absurd hm63 (Nat.not_lt_zero _)
              | succ fu63 ih63 =>
                intro k sn mo hsn hmo hk h1 h0 hm63 H locs w ls hl
                refine lv_iload hx hb dMo_apart_63 (lv_at hl 0 rfl) ?_
                refine z_ifeqN (tgt := 143) hx hb (by omega) dMo_apart_65 (by decide) (fun c65 => ?_) (fun c65 => ?_)
                · skip
                  refine lv_iload hx hb dMo_apart_143 (lv_at hl 1 rfl) ?_
                  refine lv_iload_n hx hb dMo_apart_145 rfl (lv_at hl 4 rfl) ?_
                  refine z_shrN hx hb (by omega) (by omega) dMo_apart_146 ?_
                  refine lv_iconst (v := (nI 1)) hx hb dMo_apart_147 (by decide) ?_
                  refine z_and1 hx hb dMo_apart_148 ?_
                  refine lv_iconst (v := (nI 1)) hx hb dMo_apart_149 (by decide) ?_
                  refine z_icmpneSB (tgt := 157) hx hb dMo_apart_150 (by decide) (fun c150 => ?_) (fun c150 => ?_)
                  · skip
                    refine lv_iconst (v := (nI 1)) hx hb dMo_apart_157 (by decide) ?_
                    exact hret _ _ _ _ (rowF Li (drF Se nf) n) _ _ w (rfl) (Or.inr rfl) dMo_apart_158 (by unfold apA; rw [zif_t hok, htS, hta, htb, zif_f (fun h => h.elim (fun q => by rw [c37] at q; exact absurd q (by decide)) (fun q => by rw [c46] at q; exact absurd q (by decide))), ← h0 c65]; first | (rw [zif_t c150]; done) | (rw [zif_f (by rw [c150]; decide)]))
                  · skip
                    refine lv_iconst (v := (nI 0)) hx hb dMo_apart_153 (by decide) ?_
                    refine lv_goto (tgt := 158) hx hb dMo_apart_154 (by decide) ?_
                    exact hret _ _ _ _ (rowF Li (drF Se nf) n) _ _ w (rfl) (Or.inr rfl) dMo_apart_158 (by unfold apA; rw [zif_t hok, htS, hta, htb, zif_f (fun h => h.elim (fun q => by rw [c37] at q; exact absurd q (by decide)) (fun q => by rw [c46] at q; exact absurd q (by decide))), ← h0 c65]; first | (rw [zif_t c150]; done) | (rw [zif_f (by rw [c150]; decide)]))
                · skip
                  refine lv_iload hx hb dMo_apart_68 (lv_at hl 1 rfl) ?_
                  refine lv_istore (lv' := [(6, .int (nI sn)), (5, .int (nI mo)), (4, .int (nI sn)), (0, .ref m0), (1, .int (nI a)), (2, .int (nI b2)), (3, .int (nI S))]) hx hb dMo_apart_70 hl (by decide) rfl (fun ls hl => ?_)
                  refine lv_iconst (v := (nI 0)) hx hb dMo_apart_72 (by decide) ?_
                  refine lv_istore (lv' := [(7, .int (nI 0)), (6, .int (nI sn)), (5, .int (nI mo)), (4, .int (nI sn)), (0, .ref m0), (1, .int (nI a)), (2, .int (nI b2)), (3, .int (nI S))]) hx hb dMo_apart_73 hl (by decide) rfl (fun ls hl => ?_)
                  have L75 : ∀ (fu75 : Nat) (b nx : Nat), (b ≤ n) → (nx = apN (rowF Li (drF Se nf) n) S sn b) → (n - b) < fu75 → ∀ (H : Heap) (locs : List Loc), zw G A s [(m0, zO 7 [.int (nI n), .ref av, .ref ab, .ref apl, .int (nI stt), .int (nI nf), .ref ase, .ref aco, .ref aen, .int (nI mem), .int (nI kd), .int (nI sl), .ref aor, .ref aba, .int (nI fi), .ref ali, .ref ale, .ref ach, .ref ast, .ref atw, .ref ats, .int (nI tp), .int (nI 0)]), (ase, zI G 16 (fun j => nI (Se j))), (ali, zI G 12 (fun j => nI ((rowF Li (drF Se nf) n) j)))] H locs → ∀ (ls : Array Slot), lv_has ls 8 [(7, .int (nI b)), (6, .int (nI nx)), (5, .int (nI mo)), (4, .int (nI sn)), (0, .ref m0), (1, .int (nI a)), (2, .int (nI b2)), (3, .int (nI S))] → W p l e rm_Mo_apart s m args below meth c H locs 0 0 Q (F0 m 75 ls []) := by
                    intro fu75
                    induction fu75 with
                    | zero =>
                      intro b nx hb0 hnx hm75
                      exact absurd hm75 (Nat.not_lt_zero _)
                    | succ fu75 ih75 =>
                      intro b nx hb0 hnx hm75 H locs w ls hl
                      refine lv_iload hx hb dMo_apart_75 (lv_at hl 0 rfl) ?_
                      refine lv_aload_n hx hb dMo_apart_77 rfl (lv_at hl 4 rfl) ?_
                      refine gf_Mo_68 Sf w.1 0 rfl rfl dMo_apart_78 ?_
                      refine z_icmpge (tgt := 122) hx hb (by omega) (by omega) dMo_apart_81 (by decide) (fun c81 => ?_) (fun c81 => ?_)
                      · skip
                        have hbn : b = n := by omega
                        have hnx2 : nx = apN (rowF Li (drF Se nf) n) S sn n := by rw [hnx, hbn]
                        have hge : sn ≤ nx := by rw [hnx]; exact apN_ge b
                        have hnl : nx < 4096 := by rw [hnx]; exact apN_lt hD hsn b
                        have hk1 := hk (by omega)
                        obtain ⟨k2, rfl⟩ : ∃ k2, k = k2 + 1 := ⟨k - 1, by omega⟩
                        have h11 := h1 (by omega)
                        refine lv_iload hx hb dMo_apart_122 (lv_at hl 1 rfl) ?_
                        refine lv_iload hx hb dMo_apart_124 (lv_at hl 3 rfl) ?_
                        refine z_icmpeq (tgt := 133) hx hb (by omega) (by omega) dMo_apart_126 (by decide) (fun c126 => ?_) (fun c126 => ?_)
                        · skip
                          refine lv_iconst (v := (nI 0)) hx hb dMo_apart_133 (by decide) ?_
                          refine lv_istore (lv' := [(5, .int (nI 0)), (7, .int (nI b)), (6, .int (nI nx)), (4, .int (nI sn)), (0, .ref m0), (1, .int (nI a)), (2, .int (nI b2)), (3, .int (nI S))]) hx hb dMo_apart_134 hl (by decide) rfl (fun ls hl => ?_)
                          refine lv_iload hx hb dMo_apart_136 (lv_at hl 2 rfl) ?_
                          refine lv_istore (lv' := [(4, .int (nI nx)), (5, .int (nI 0)), (7, .int (nI b)), (6, .int (nI nx)), (0, .ref m0), (1, .int (nI a)), (2, .int (nI b2)), (3, .int (nI S))]) hx hb dMo_apart_138 hl (by decide) rfl (fun ls hl => ?_)
                          refine lv_goto (tgt := 63) hx hb dMo_apart_140 (by decide) ?_
                          refine ih63 k2 nx 0 ?_ ?_ ?_ ?_ ?_ ?_ _ _ w ls (lv_sub hl [1, 0, 4, 5, 6, 7] rfl)
                          · rw [hnx]; exact apN_lt hD hsn b
                          · omega
                          · intro q; first | exact absurd q (by decide) | omega
                          · intro q; first | exact absurd q (by decide) | (rw [← h11, apX_n (by rw [← hnx2]; exact c126), ← hnx2])
                          · intro q; first | exact absurd q (by decide) | (rw [← h11, apX_e (by rw [← hnx2]; exact c126)]; exact c126)
                          · omega
                        · skip
                          refine lv_iconst (v := (nI 1)) hx hb dMo_apart_129 (by decide) ?_
                          refine lv_goto (tgt := 134) hx hb dMo_apart_130 (by decide) ?_
                          refine lv_istore (lv' := [(5, .int (nI 1)), (7, .int (nI b)), (6, .int (nI nx)), (4, .int (nI sn)), (0, .ref m0), (1, .int (nI a)), (2, .int (nI b2)), (3, .int (nI S))]) hx hb dMo_apart_134 hl (by decide) rfl (fun ls hl => ?_)
                          refine lv_iload hx hb dMo_apart_136 (lv_at hl 2 rfl) ?_
                          refine lv_istore (lv' := [(4, .int (nI nx)), (5, .int (nI 1)), (7, .int (nI b)), (6, .int (nI nx)), (0, .ref m0), (1, .int (nI a)), (2, .int (nI b2)), (3, .int (nI S))]) hx hb dMo_apart_138 hl (by decide) rfl (fun ls hl => ?_)
                          refine lv_goto (tgt := 63) hx hb dMo_apart_140 (by decide) ?_
                          refine ih63 k2 nx 1 ?_ ?_ ?_ ?_ ?_ ?_ _ _ w ls (lv_sub hl [1, 0, 4, 5, 6, 7] rfl)
                          · rw [hnx]; exact apN_lt hD hsn b
                          · omega
                          · intro q; first | exact absurd q (by decide) | omega
                          · intro q; first | exact absurd q (by decide) | (rw [← h11, apX_n (by rw [← hnx2]; exact c126), ← hnx2])
                          · intro q; first | exact absurd q (by decide) | (rw [← h11, apX_e (by rw [← hnx2]; exact c126)]; exact c126)
                          · omega
                      · skip
                        refine lv_iload hx hb dMo_apart_84 (lv_at hl 3 rfl) ?_
                        refine lv_iload hx hb dMo_apart_86 (lv_at hl 0 rfl) ?_
                        refine z_shrN hx hb (by omega) (by omega) dMo_apart_88 ?_
                        refine lv_iconst (v := (nI 1)) hx hb dMo_apart_89 (by decide) ?_
                        refine z_and1 hx hb dMo_apart_90 ?_
                        refine lv_iconst (v := (nI 1)) hx hb dMo_apart_91 (by decide) ?_
                        refine z_icmpneSB (tgt := 112) hx hb dMo_apart_92 (by decide) (fun c92 => ?_) (fun c92 => ?_)
                        · skip
                          refine lv_iload hx hb dMo_apart_112 (lv_at hl 1 rfl) ?_
                          refine lv_istore (lv' := [(6, .int (nI nx)), (7, .int (nI b)), (5, .int (nI mo)), (4, .int (nI sn)), (0, .ref m0), (1, .int (nI a)), (2, .int (nI b2)), (3, .int (nI S))]) hx hb dMo_apart_114 hl (by decide) rfl (fun ls hl => ?_)
                          refine z_iinc (d := 1) (lv' := [(7, .int (nI (b + 1))), (6, .int (nI nx)), (5, .int (nI mo)), (4, .int (nI sn)), (0, .ref m0), (1, .int (nI a)), (2, .int (nI b2)), (3, .int (nI S))]) hx hb dMo_apart_116 hl (k := 1) rfl (by decide) (by decide) rfl (fun ls hl => ?_)
                          refine lv_goto (tgt := 75) hx hb dMo_apart_119 (by decide) ?_
                          refine ih75 (b + 1) _ ?_ ?_ ?_ _ _ w ls (lv_sub hl [0, 1, 2, 3, 4, 5, 6, 7] rfl)
                          · omega
                          · first | (rw [apN_t c92, hnx]; done) | (rw [apN_f c92, hnx])
                          · omega
                        · skip
                          refine lv_iload hx hb dMo_apart_95 (lv_at hl 1 rfl) ?_
                          refine lv_aload_n hx hb dMo_apart_97 rfl (lv_at hl 4 rfl) ?_
                          refine gf_Mo_34 Sf w.1 0 rfl rfl dMo_apart_98 ?_
                          refine lv_iload hx hb dMo_apart_101 (lv_at hl 0 rfl) ?_
                          refine z_iald hx hb w.1 2 (k := b) rfl (by omega) (by omega) dMo_apart_103 ?_
                          refine lv_iload_n hx hb dMo_apart_104 rfl (lv_at hl 7 rfl) ?_
                          refine lv_iconst (v := (-1)) hx hb dMo_apart_105 (by decide) ?_
                          refine lv_ixor hx hb dMo_apart_106 ?_
                          refine z_andC hx hb dMo_apart_107 ?_
                          refine z_orN hx hb dMo_apart_108 ?_
                          refine lv_goto (tgt := 114) hx hb dMo_apart_109 (by decide) ?_
                          refine lv_istore (lv' := [(6, .int (nI (nx ||| (sdf ((rowF Li (drF Se nf) n) b) S)))), (7, .int (nI b)), (5, .int (nI mo)), (4, .int (nI sn)), (0, .ref m0), (1, .int (nI a)), (2, .int (nI b2)), (3, .int (nI S))]) hx hb dMo_apart_114 hl (by decide) rfl (fun ls hl => ?_)
                          refine z_iinc (d := 1) (lv' := [(7, .int (nI (b + 1))), (6, .int (nI (nx ||| (sdf ((rowF Li (drF Se nf) n) b) S)))), (5, .int (nI mo)), (4, .int (nI sn)), (0, .ref m0), (1, .int (nI a)), (2, .int (nI b2)), (3, .int (nI S))]) hx hb dMo_apart_116 hl (k := 1) rfl (by decide) (by decide) rfl (fun ls hl => ?_)
                          refine lv_goto (tgt := 75) hx hb dMo_apart_119 (by decide) ?_
                          refine ih75 (b + 1) (nx ||| (sdf ((rowF Li (drF Se nf) n) b) S)) ?_ ?_ ?_ _ _ w ls (lv_sub hl [0, 1, 2, 3, 4, 5, 6, 7] rfl)
                          · omega
                          · first | (rw [apN_t c92, hnx]; done) | (rw [apN_f c92, hnx])
                          · omega
                  refine L75 ((n - 0) + 1) 0 sn ?_ ?_ ?_ _ _ w ls (lv_sub hl [0, 1, 2, 3, 4, 5, 6, 7] rfl)
                  · omega
                  · rfl
                  · exact Nat.lt_succ_self _
            refine L63 ((4096 - (2 ^ a) + 1) + 1) 4096 (2 ^ a) 1 ?_ ?_ ?_ ?_ ?_ ?_ _ _ w ls (lv_sub hl [0, 1, 2, 3, 4, 5] rfl)
            · exact pw_lt (by omega)
            · omega
            · intro _; exact Nat.le_add_right _ _
            · intro _; rfl
            · intro q; exact absurd q (by decide)
            · exact Nat.lt_succ_self _
          · skip
            refine lv_iconst (v := (nI 1)) hx hb dMo_apart_49 (by decide) ?_
            exact hret _ _ _ _ Li _ _ w (rfl) (Or.inl rfl) dMo_apart_50 (by unfold apA; rw [zif_t hok, htS, hta, htb, zif_t (by first | exact Or.inl c37 | exact Or.inr c46)])
      · skip
        have hnok : ¬ apOk n (nI a) (nI b2) z := fun h => c26 h.2.2
        refine lv_iconst (v := (mI 0)) hx hb dMo_apart_29 (by decide) ?_
        exact hret _ _ _ _ Li _ _ w (rfl) (Or.inl rfl) dMo_apart_30 (by unfold apA; rw [zif_f hnok, mI_0])

def rm_Mo_taken : Room := { frames := 4, cells := 0, slots := 0, locals := 170 }
set_option maxHeartbeats 4000000 in
set_option maxRecDepth 100000 in
theorem c_Mo_taken (l : Launch) (G : zG) (m0 av ab apl ase aco aen aor aba ali ale ach ast atw ats : Nat) (n stt nf mem kd sl fi tp th : Nat) (V Pl Se Od Bg Li : Nat → Nat) (x y : Int32) (hn : n ≤ 12) (hnf : nf ≤ 16) (hV : ∀ j, V j ≤ 4) (hSe : ∀ i, Se i < 4096) (hLi : ∀ i, Li i < 4096) (hBg : ∀ i, Bg i < 4096) (hOd : ∀ i, Od i < 12) (hsl : sl ≤ 1) (hmem : mem ≤ 65536) (sz : Nat) : Met l yMo_taken (.code yMo_taken cMo_taken 4 (some .int) :: zT) rm_Mo_taken (zPw G [.ref m0, .int x, .int y] [(m0, zO 7 [.int (nI n), .ref av, .ref ab, .ref apl, .int (nI stt), .int (nI nf), .ref ase, .ref aco, .ref aen, .int (nI mem), .int (nI kd), .int (nI sl), .ref aor, .ref aba, .int (nI fi), .ref ali, .ref ale, .ref ach, .ref ast, .ref atw, .ref ats, .int (nI tp), .int (nI th)]), (av, zI G 12 (fun j => nI (V j))), (apl, zI G 12 (fun j => mI (Pl j))), (ase, zI G 16 (fun j => nI (Se j))), (aor, zI G 12 (fun j => nI (Od j))), (aba, zI G 12 (fun j => nI (Bg j))), (ali, zI G 12 (fun j => nI (Li j)))] sz) (zQ (S := osT) G (fun u => some (.int (zif (knP x n) (zif (inZ y.toInt64 (lN 0) (lN 3)) (tkR n V (rfZ n nf sl kd fi V Pl Se Li Od Bg) (tn x) (tn y)) (-2)) (-1)))) (fun u => [(m0, zO 7 [.int (nI n), .ref av, .ref ab, .ref apl, .int (nI stt), .int (nI nf), .ref ase, .ref aco, .ref aen, .int (nI mem), .int (nI u.2.2.2.1), .int (nI u.2.2.2.2.2), .ref aor, .ref aba, .int (nI u.2.2.2.2.1), .ref ali, .ref ale, .ref ach, .ref ast, .ref atw, .ref ats, .int (nI tp), .int (nI 0)]), (av, zI G 12 (fun j => nI (V j))), (apl, zI G 12 (fun j => mI (Pl j))), (ase, zI G 16 (fun j => nI (Se j))), (aor, zI G 12 (fun j => nI (u.2.1 j))), (aba, zI G 12 (fun j => nI (u.2.2.1 j))), (ali, zI G 12 (fun j => nI (u.1 j)))]) (va_A [(m0, zO 7 [.int (nI n), .ref av, .ref ab, .ref apl, .int (nI stt), .int (nI nf), .ref ase, .ref aco, .ref aen, .int (nI mem), .int (nI kd), .int (nI sl), .ref aor, .ref aba, .int (nI fi), .ref ali, .ref ale, .ref ach, .ref ast, .ref atw, .ref ats, .int (nI tp), .int (nI th)]), (av, zI G 12 (fun j => nI (V j))), (apl, zI G 12 (fun j => mI (Pl j))), (ase, zI G 16 (fun j => nI (Se j))), (aor, zI G 12 (fun j => nI (Od j))), (aba, zI G 12 (fun j => nI (Bg j))), (ali, zI G 12 (fun j => nI (Li j)))] sz) (fun u => oS n nf V Pl Se (Li, Od, Bg, kd, fi, sl) u)) 0 0 (va_A [(m0, zO 7 [.int (nI n), .ref av, .ref ab, .ref apl, .int (nI stt), .int (nI nf), .ref ase, .ref aco, .ref aen, .int (nI mem), .int (nI kd), .int (nI sl), .ref aor, .ref aba, .int (nI fi), .ref ali, .ref ale, .ref ach, .ref ast, .ref atw, .ref ats, .int (nI tp), .int (nI th)]), (av, zI G 12 (fun j => nI (V j))), (apl, zI G 12 (fun j => mI (Pl j))), (ase, zI G 16 (fun j => nI (Se j))), (aor, zI G 12 (fun j => nI (Od j))), (aba, zI G 12 (fun j => nI (Bg j))), (ali, zI G 12 (fun j => nI (Li j)))] sz) := by
  refine z_metWi (by decide) (Nat.le_of_ble_eq_true rfl) (fun p e s m args below meth c ls A Q Sf hnm w hl hret => ?_)
  obtain ⟨H, hH⟩ : ∃ H, H = s.heap := ⟨_, rfl⟩
  obtain ⟨locs, hlo⟩ : ∃ L : List Loc, L = [] := ⟨_, rfl⟩
  rw [← hH, ← hlo] at w
  rw [← hH, ← hlo]
  clear hH hlo
  have Sf : CallFix p m c cMo_taken 4 s args zT RMo := Sf
  have hx := Sf.1
  have hb := Sf.2.1
  have hown := Sf.2.2.2.1
  have hts := Sf.2.2.2.2
  have hl : lv_has ls 4 [(0, .ref m0), (1, .int x), (2, .int y)] := hl
  have hBB := rfZ_B (nf := nf) (sl := sl) (kd := kd) (fi := fi) (V := V) (Pl := Pl) hn hSe hLi hOd hBg
  refine lv_aload_n hx hb dMo_taken_0 rfl (lv_at hl 0 rfl) ?_
  refine lv_iconst (v := (nI 0)) hx hb dMo_taken_1 (by decide) ?_
  refine pf_Mo_65 Sf w 0 rfl rfl rfl (Nat.le_of_ble_eq_true rfl) (ws' := [(m0, zO 7 [.int (nI n), .ref av, .ref ab, .ref apl, .int (nI stt), .int (nI nf), .ref ase, .ref aco, .ref aen, .int (nI mem), .int (nI kd), .int (nI sl), .ref aor, .ref aba, .int (nI fi), .ref ali, .ref ale, .ref ach, .ref ast, .ref atw, .ref ats, .int (nI tp), .int (nI 0)]), (av, zI G 12 (fun j => nI (V j))), (apl, zI G 12 (fun j => mI (Pl j))), (ase, zI G 16 (fun j => nI (Se j))), (aor, zI G 12 (fun j => nI (Od j))), (aba, zI G 12 (fun j => nI (Bg j))), (ali, zI G 12 (fun j => nI (Li j)))]) rfl dMo_taken_2 (fun H locs w => ?_)
  refine lv_aload_n hx hb dMo_taken_5 rfl (lv_at hl 0 rfl) ?_
  refine lv_iload_n hx hb dMo_taken_6 rfl (lv_at hl 1 rfl) ?_
  refine z_rV (As := [.int x]) (rest := []) Sf (c_Mo_isName l G m0 av ab apl ase aco aen aor aba ali ale ach ast atw ats n stt nf mem kd sl fi tp 0 x (by first | assumption | omega)) mv_Mo_104 ⟨rfl, rfl⟩ ⟨Nat.le_of_ble_eq_true rfl, Nat.le_of_ble_eq_true rfl⟩ w.1 [0] rfl 0 rfl rfl rfl rfl hl.1 rfl (Nat.le_of_ble_eq_true rfl) dMo_taken_7 ⟨Nat.le_of_ble_eq_true rfl, Nat.le_of_ble_eq_true rfl⟩ ?_
  refine z_ifneB (tgt := 15) hx hb dMo_taken_10 (by decide) (fun c10 => ?_) (fun c10 => ?_)
  · skip
    obtain ⟨j, hj, rfl⟩ := kn_nat (by omega) c10
    have htn : tn (nI j) = j := tn_nI (by omega)
    refine lv_iload_n hx hb dMo_taken_15 rfl (lv_at hl 2 rfl) ?_
    refine lv_i2l hx hb dMo_taken_16 rfl ?_
    refine lv_lconst (v := lN 0) hx hb dMo_taken_17 (by decide) ?_
    refine lv_ldc2 (v := (lN 3)) hx hb hown (hts _ kc_Mo_102) dMo_taken_18 ?_
    refine z_rS (As := [.long y.toInt64, .long (lN 0), .long (lN 3)]) (rest := []) Sf (c_Mo_in l G y.toInt64 (lN 0) (lN 3) ) mv_Mo_71 ⟨rfl, rfl⟩ ⟨Nat.le_of_ble_eq_true rfl, Nat.le_of_ble_eq_true rfl⟩ w.1 [] rfl rfl hl.1 rfl (Nat.le_of_ble_eq_true rfl) dMo_taken_21 ⟨Nat.le_of_ble_eq_true rfl, Nat.le_of_ble_eq_true rfl⟩ ?_
    refine z_ifneB (tgt := 30) hx hb dMo_taken_24 (by decide) (fun c24 => ?_) (fun c24 => ?_)
    · skip
      have c24b := c24
      obtain ⟨q, -, hq, rfl⟩ := in_nat (by decide) (by decide) c24
      have htq : tn (nI q) = q := tn_nI (by omega)
      refine lv_aload_n hx hb dMo_taken_30 rfl (lv_at hl 0 rfl) ?_
      refine z_wV (wr := []) (As := []) (rest := []) Sf (c_Mo_refresh l G m0 av ab apl ase aco aen aor aba ali ale ach ast atw ats n stt nf mem kd sl fi tp 0 V Pl Se Od Bg Li (by first | assumption | omega) (by first | assumption | omega) (by first | assumption | omega) (by first | assumption | omega) (by first | assumption | omega) (by first | assumption | omega) H.size) mv_Mo_152 ⟨rfl, rfl⟩ ⟨Nat.le_of_ble_eq_true rfl, Nat.le_of_ble_eq_true rfl⟩ w [0, 1, 2, 3, 4, 5, 6] [] rfl rfl (by decide) (by decide) (by decide) 0 rfl rfl rfl rfl hl.1 rfl (Nat.le_of_ble_eq_true rfl) dMo_taken_31 ⟨Nat.le_of_ble_eq_true rfl, Nat.le_of_ble_eq_true rfl⟩ (fun u1 H locs hu1 w => ?_)
      have w := w.eq (ws' := [(m0, zO 7 [.int (nI n), .ref av, .ref ab, .ref apl, .int (nI stt), .int (nI nf), .ref ase, .ref aco, .ref aen, .int (nI mem), .int (nI ((rfZ n nf sl kd fi V Pl Se Li Od Bg).2.2.2.1)), .int (nI 0), .ref aor, .ref aba, .int (nI ((rfZ n nf sl kd fi V Pl Se Li Od Bg).2.2.2.2)), .ref ali, .ref ale, .ref ach, .ref ast, .ref atw, .ref ats, .int (nI tp), .int (nI 0)]), (av, zI G 12 (fun j => nI (V j))), (apl, zI G 12 (fun j => mI (Pl j))), (ase, zI G 16 (fun j => nI (Se j))), (aor, zI G 12 (fun j => nI (((rfZ n nf sl kd fi V Pl Se Li Od Bg).2.1) j))), (aba, zI G 12 (fun j => nI (((rfZ n nf sl kd fi V Pl Se Li Od Bg).2.2.1) j))), (ali, zI G 12 (fun j => nI (((rfZ n nf sl kd fi V Pl Se Li Od Bg).1) j)))]) rfl
      refine W.eq (g2 := F0 m 34 ls []) rfl ?_
      refine lv_iload_n hx hb dMo_taken_34 rfl (lv_at hl 2 rfl) ?_
      refine z_ifneN (tgt := 45) hx hb (by omega) dMo_taken_35 (by decide) (fun c35 => ?_) (fun c35 => ?_)
      · skip
        refine lv_iload_n hx hb dMo_taken_45 rfl (lv_at hl 2 rfl) ?_
        refine lv_iconst (v := (nI 1)) hx hb dMo_taken_46 (by decide) ?_
        refine z_icmpne (tgt := 57) hx hb (by omega) (by omega) dMo_taken_47 (by decide) (fun c47 => ?_) (fun c47 => ?_)
        · skip
          refine lv_iload_n hx hb dMo_taken_57 rfl (lv_at hl 2 rfl) ?_
          refine lv_iconst (v := (nI 3)) hx hb dMo_taken_58 (by decide) ?_
          refine z_icmpne (tgt := 73) hx hb (by omega) (by omega) dMo_taken_59 (by decide) (fun c59 => ?_) (fun c59 => ?_)
          · skip
            refine lv_iload_n hx hb dMo_taken_73 rfl (lv_at hl 1 rfl) ?_
            refine lv_iconst (v := (nI 1)) hx hb dMo_taken_74 (by decide) ?_
            refine z_addN hx hb dMo_taken_75 ?_
            refine lv_istore_n (lv' := [(3, .int (nI (j + 1))), (0, .ref m0), (1, .int (nI j)), (2, .int (nI q))]) hx hb dMo_taken_76 rfl hl (by decide) rfl (fun ls hl => ?_)
            have L77 : ∀ (fu77 : Nat) (i : Nat), (i ≤ n) → (paF (rfZ n nf sl kd fi V Pl Se Li Od Bg).2.1 (rfZ n nf sl kd fi V Pl Se Li Od Bg).2.2.1 j (n - i) i = paF (rfZ n nf sl kd fi V Pl Se Li Od Bg).2.1 (rfZ n nf sl kd fi V Pl Se Li Od Bg).2.2.1 j (n - (j + 1)) (j + 1)) → (n - i) < fu77 → ∀ (H : Heap) (locs : List Loc), zw G A s [(m0, zO 7 [.int (nI n), .ref av, .ref ab, .ref apl, .int (nI stt), .int (nI nf), .ref ase, .ref aco, .ref aen, .int (nI mem), .int (nI ((rfZ n nf sl kd fi V Pl Se Li Od Bg).2.2.2.1)), .int (nI 0), .ref aor, .ref aba, .int (nI ((rfZ n nf sl kd fi V Pl Se Li Od Bg).2.2.2.2)), .ref ali, .ref ale, .ref ach, .ref ast, .ref atw, .ref ats, .int (nI tp), .int (nI 0)]), (av, zI G 12 (fun j => nI (V j))), (apl, zI G 12 (fun j => mI (Pl j))), (ase, zI G 16 (fun j => nI (Se j))), (aor, zI G 12 (fun j => nI (((rfZ n nf sl kd fi V Pl Se Li Od Bg).2.1) j))), (aba, zI G 12 (fun j => nI (((rfZ n nf sl kd fi V Pl Se Li Od Bg).2.2.1) j))), (ali, zI G 12 (fun j => nI (((rfZ n nf sl kd fi V Pl Se Li Od Bg).1) j)))] H locs → ∀ (ls : Array Slot), lv_has ls 4 [(3, .int (nI i)), (0, .ref m0), (1, .int (nI j)), (2, .int (nI q))] → W p l e rm_Mo_taken s m args below meth c H locs 0 0 Q (F0 m 77 ls []) := by
              intro fu77
              induction fu77 with
              | zero =>
                intro i hi hpa hm77
                exact absurd hm77 (Nat.not_lt_zero _)
              | succ fu77 ih77 =>
                intro i hi hpa hm77 H locs w ls hl
                refine lv_iload_n hx hb dMo_taken_77 rfl (lv_at hl 0 rfl) ?_
                refine lv_aload_n hx hb dMo_taken_78 rfl (lv_at hl 1 rfl) ?_
                refine gf_Mo_68 Sf w.1 0 rfl rfl dMo_taken_79 ?_
                refine z_icmpge (tgt := 112) hx hb (by omega) (by omega) dMo_taken_82 (by decide) (fun c82 => ?_) (fun c82 => ?_)
                · skip
                  refine lv_iconst (v := (mI 0)) hx hb dMo_taken_112 (by decide) ?_
                  exact hret _ _ _ _ ((rfZ n nf sl kd fi V Pl Se Li Od Bg).1, (rfZ n nf sl kd fi V Pl Se Li Od Bg).2.1, (rfZ n nf sl kd fi V Pl Se Li Od Bg).2.2.1, ((rfZ n nf sl kd fi V Pl Se Li Od Bg).2.2.2.1), ((rfZ n nf sl kd fi V Pl Se Li Od Bg).2.2.2.2), 0) _ _ w (rfl) (oS_b hn hSe hLi hOd hBg) dMo_taken_113 (by rw [zif_t c10, zif_t c24b, htn, htq]; unfold tkR; rw [zif_f c35, zif_f c47, zif_f c59, ← hpa, show n - i = 0 by omega]; rfl)
                · skip
                  refine lv_aload_n hx hb dMo_taken_85 rfl (lv_at hl 1 rfl) ?_
                  refine gf_Mo_31 Sf w.1 0 rfl rfl dMo_taken_86 ?_
                  refine lv_iload_n hx hb dMo_taken_89 rfl (lv_at hl 2 rfl) ?_
                  refine z_iald hx hb w.1 5 (k := j) rfl (by omega) (by omega) dMo_taken_90 ?_
                  refine lv_aload_n hx hb dMo_taken_91 rfl (lv_at hl 1 rfl) ?_
                  refine gf_Mo_28 Sf w.1 0 rfl rfl dMo_taken_92 ?_
                  refine lv_iload_n hx hb dMo_taken_95 rfl (lv_at hl 0 rfl) ?_
                  refine z_iald hx hb w.1 4 (k := i) rfl (by omega) (by omega) dMo_taken_96 ?_
                  refine z_shrN hx hb (Nat.lt_trans (hBB.2.2 j) (by decide)) (Nat.lt_trans (hBB.2.1 _) (by decide)) dMo_taken_97 ?_
                  refine lv_iconst (v := (nI 1)) hx hb dMo_taken_98 (by decide) ?_
                  refine z_and1 hx hb dMo_taken_99 ?_
                  refine lv_iconst (v := (nI 1)) hx hb dMo_taken_100 (by decide) ?_
                  refine z_icmpneSB (tgt := 106) hx hb dMo_taken_101 (by decide) (fun c101 => ?_) (fun c101 => ?_)
                  · skip
                    refine z_iinc (d := 1) (lv' := [(3, .int (nI (i + 1))), (0, .ref m0), (1, .int (nI j)), (2, .int (nI q))]) hx hb dMo_taken_106 hl (k := 0) rfl (by decide) (by decide) rfl (fun ls hl => ?_)
                    refine lv_goto (tgt := 77) hx hb dMo_taken_109 (by decide) ?_
                    refine ih77 (i + 1) ?_ ?_ ?_ _ _ w ls (lv_sub hl [0, 1, 2, 3] rfl)
                    · omega
                    · rw [← hpa, show n - i = (n - (i + 1)) + 1 by omega, paF_n c101]
                    · omega
                  · skip
                    refine lv_iload_n hx hb dMo_taken_104 rfl (lv_at hl 0 rfl) ?_
                    exact hret _ _ _ _ ((rfZ n nf sl kd fi V Pl Se Li Od Bg).1, (rfZ n nf sl kd fi V Pl Se Li Od Bg).2.1, (rfZ n nf sl kd fi V Pl Se Li Od Bg).2.2.1, ((rfZ n nf sl kd fi V Pl Se Li Od Bg).2.2.2.1), ((rfZ n nf sl kd fi V Pl Se Li Od Bg).2.2.2.2), 0) _ _ w (rfl) (oS_b hn hSe hLi hOd hBg) dMo_taken_105 (by rw [zif_t c10, zif_t c24b, htn, htq]; unfold tkR; rw [zif_f c35, zif_f c47, zif_f c59, ← hpa, show n - i = (n - i - 1) + 1 by omega, paF_y c101, mI_s])
            refine L77 ((n - (j + 1)) + 1) (j + 1) ?_ ?_ ?_ _ _ w ls (lv_sub hl [0, 1, 2, 3] rfl)
            · omega
            · rfl
            · exact Nat.lt_succ_self _
          · skip
            refine lv_aload_n hx hb dMo_taken_62 rfl (lv_at hl 0 rfl) ?_
            refine lv_aload_n hx hb dMo_taken_63 rfl (lv_at hl 0 rfl) ?_
            refine gf_Mo_31 Sf w.1 0 rfl rfl dMo_taken_64 ?_
            refine lv_iload_n hx hb dMo_taken_67 rfl (lv_at hl 1 rfl) ?_
            refine z_iald hx hb w.1 5 (k := j) rfl (by omega) (by omega) dMo_taken_68 ?_
            refine z_rV (As := [.int (nI (((rfZ n nf sl kd fi V Pl Se Li Od Bg).2.2.1) j))]) (rest := []) Sf (c_Mo_cells l G m0 av ab apl ase aco aen aor aba ali ale ach ast atw ats n stt nf mem ((rfZ n nf sl kd fi V Pl Se Li Od Bg).2.2.2.1) 0 ((rfZ n nf sl kd fi V Pl Se Li Od Bg).2.2.2.2) tp 0 V (((rfZ n nf sl kd fi V Pl Se Li Od Bg).2.2.1) j) (by first | assumption | omega) (hBB.2.2 j)) mv_Mo_97 ⟨rfl, rfl⟩ ⟨Nat.le_of_ble_eq_true rfl, Nat.le_of_ble_eq_true rfl⟩ w.1 [0, 1] rfl 0 rfl rfl rfl rfl hl.1 rfl (Nat.le_of_ble_eq_true rfl) dMo_taken_69 ⟨Nat.le_of_ble_eq_true rfl, Nat.le_of_ble_eq_true rfl⟩ ?_
            exact hret _ _ _ _ ((rfZ n nf sl kd fi V Pl Se Li Od Bg).1, (rfZ n nf sl kd fi V Pl Se Li Od Bg).2.1, (rfZ n nf sl kd fi V Pl Se Li Od Bg).2.2.1, ((rfZ n nf sl kd fi V Pl Se Li Od Bg).2.2.2.1), ((rfZ n nf sl kd fi V Pl Se Li Od Bg).2.2.2.2), 0) _ _ w (rfl) (oS_b hn hSe hLi hOd hBg) dMo_taken_72 (by rw [zif_t c10, zif_t c24b, htn, htq]; unfold tkR; rw [zif_f c35, zif_f c47, zif_t c59])
        · skip
          refine lv_aload_n hx hb dMo_taken_50 rfl (lv_at hl 0 rfl) ?_
          refine gf_Mo_31 Sf w.1 0 rfl rfl dMo_taken_51 ?_
          refine lv_iload_n hx hb dMo_taken_54 rfl (lv_at hl 1 rfl) ?_
          refine z_iald hx hb w.1 5 (k := j) rfl (by omega) (by omega) dMo_taken_55 ?_
          exact hret _ _ _ _ ((rfZ n nf sl kd fi V Pl Se Li Od Bg).1, (rfZ n nf sl kd fi V Pl Se Li Od Bg).2.1, (rfZ n nf sl kd fi V Pl Se Li Od Bg).2.2.1, ((rfZ n nf sl kd fi V Pl Se Li Od Bg).2.2.2.1), ((rfZ n nf sl kd fi V Pl Se Li Od Bg).2.2.2.2), 0) _ _ w (rfl) (oS_b hn hSe hLi hOd hBg) dMo_taken_56 (by rw [zif_t c10, zif_t c24b, htn, htq]; unfold tkR; rw [zif_f c35, zif_t c47])
      · skip
        refine lv_aload_n hx hb dMo_taken_38 rfl (lv_at hl 0 rfl) ?_
        refine gf_Mo_28 Sf w.1 0 rfl rfl dMo_taken_39 ?_
        refine lv_iload_n hx hb dMo_taken_42 rfl (lv_at hl 1 rfl) ?_
        refine z_iald hx hb w.1 4 (k := j) rfl (by omega) (by omega) dMo_taken_43 ?_
        exact hret _ _ _ _ ((rfZ n nf sl kd fi V Pl Se Li Od Bg).1, (rfZ n nf sl kd fi V Pl Se Li Od Bg).2.1, (rfZ n nf sl kd fi V Pl Se Li Od Bg).2.2.1, ((rfZ n nf sl kd fi V Pl Se Li Od Bg).2.2.2.1), ((rfZ n nf sl kd fi V Pl Se Li Od Bg).2.2.2.2), 0) _ _ w (rfl) (oS_b hn hSe hLi hOd hBg) dMo_taken_44 (by rw [zif_t c10, zif_t c24b, htn, htq]; unfold tkR; rw [zif_t c35])
    · skip
      refine lv_bipush (v := (-2)) hx hb dMo_taken_27 (by decide) ?_
      exact hret _ _ _ _ (Li, Od, Bg, kd, fi, sl) _ _ w (rfl) (oS_a hLi hOd hBg hsl) dMo_taken_29 (by rw [zif_t c10, zif_f c24])
  · skip
    refine lv_iconst (v := (mI 0)) hx hb dMo_taken_13 (by decide) ?_
    exact hret _ _ _ _ (Li, Od, Bg, kd, fi, sl) _ _ w (rfl) (oS_a hLi hOd hBg hsl) dMo_taken_14 (by rw [zif_f c10, mI_0])

def rm_Mo_told : Room := { frames := 4, cells := 0, slots := 0, locals := 170 }
set_option maxHeartbeats 4000000 in
set_option maxRecDepth 100000 in
theorem c_Mo_told (l : Launch) (G : zG) (m0 av ab apl ase aco aen aor aba ali ale ach ast atw ats : Nat) (n stt nf mem kd sl fi tp th : Nat) (V Pl Se Od Bg Li : Nat → Nat) (Co : Nat → Nat) (x : Int32) (hn : n ≤ 12) (hnf : nf ≤ 16) (hV : ∀ j, V j ≤ 4) (hSe : ∀ i, Se i < 4096) (hLi : ∀ i, Li i < 4096) (hBg : ∀ i, Bg i < 4096) (hOd : ∀ i, Od i < 12) (hsl : sl ≤ 1) (hmem : mem ≤ 65536) (sz : Nat) : Met l yMo_told (.code yMo_told cMo_told 4 (some .int) :: zT) rm_Mo_told (zPw G [.ref m0, .int x] [(m0, zO 7 [.int (nI n), .ref av, .ref ab, .ref apl, .int (nI stt), .int (nI nf), .ref ase, .ref aco, .ref aen, .int (nI mem), .int (nI kd), .int (nI sl), .ref aor, .ref aba, .int (nI fi), .ref ali, .ref ale, .ref ach, .ref ast, .ref atw, .ref ats, .int (nI tp), .int (nI th)]), (av, zI G 12 (fun j => nI (V j))), (apl, zI G 12 (fun j => mI (Pl j))), (ase, zI G 16 (fun j => nI (Se j))), (aor, zI G 12 (fun j => nI (Od j))), (aba, zI G 12 (fun j => nI (Bg j))), (ali, zI G 12 (fun j => nI (Li j))), (aco, zI G 16 (fun j => nI (Co j)))] sz) (zQ (S := osT) G (fun u => some (.int (zif (inZ x.toInt64 (lN 0) (lN 9)) (tdR n stt nf V Se Co (rfZ n nf sl kd fi V Pl Se Li Od Bg) (tn x)) (-2)))) (fun u => [(m0, zO 7 [.int (nI n), .ref av, .ref ab, .ref apl, .int (nI stt), .int (nI nf), .ref ase, .ref aco, .ref aen, .int (nI mem), .int (nI u.2.2.2.1), .int (nI u.2.2.2.2.2), .ref aor, .ref aba, .int (nI u.2.2.2.2.1), .ref ali, .ref ale, .ref ach, .ref ast, .ref atw, .ref ats, .int (nI tp), .int (nI 0)]), (av, zI G 12 (fun j => nI (V j))), (apl, zI G 12 (fun j => mI (Pl j))), (ase, zI G 16 (fun j => nI (Se j))), (aor, zI G 12 (fun j => nI (u.2.1 j))), (aba, zI G 12 (fun j => nI (u.2.2.1 j))), (ali, zI G 12 (fun j => nI (u.1 j))), (aco, zI G 16 (fun j => nI (Co j)))]) (va_A [(m0, zO 7 [.int (nI n), .ref av, .ref ab, .ref apl, .int (nI stt), .int (nI nf), .ref ase, .ref aco, .ref aen, .int (nI mem), .int (nI kd), .int (nI sl), .ref aor, .ref aba, .int (nI fi), .ref ali, .ref ale, .ref ach, .ref ast, .ref atw, .ref ats, .int (nI tp), .int (nI th)]), (av, zI G 12 (fun j => nI (V j))), (apl, zI G 12 (fun j => mI (Pl j))), (ase, zI G 16 (fun j => nI (Se j))), (aor, zI G 12 (fun j => nI (Od j))), (aba, zI G 12 (fun j => nI (Bg j))), (ali, zI G 12 (fun j => nI (Li j))), (aco, zI G 16 (fun j => nI (Co j)))] sz) (fun u => oS n nf V Pl Se (Li, Od, Bg, kd, fi, sl) u)) 0 0 (va_A [(m0, zO 7 [.int (nI n), .ref av, .ref ab, .ref apl, .int (nI stt), .int (nI nf), .ref ase, .ref aco, .ref aen, .int (nI mem), .int (nI kd), .int (nI sl), .ref aor, .ref aba, .int (nI fi), .ref ali, .ref ale, .ref ach, .ref ast, .ref atw, .ref ats, .int (nI tp), .int (nI th)]), (av, zI G 12 (fun j => nI (V j))), (apl, zI G 12 (fun j => mI (Pl j))), (ase, zI G 16 (fun j => nI (Se j))), (aor, zI G 12 (fun j => nI (Od j))), (aba, zI G 12 (fun j => nI (Bg j))), (ali, zI G 12 (fun j => nI (Li j))), (aco, zI G 16 (fun j => nI (Co j)))] sz) := by
  refine z_metWi (by decide) (Nat.le_of_ble_eq_true rfl) (fun p e s m args below meth c ls A Q Sf hnm w hl hret => ?_)
  obtain ⟨H, hH⟩ : ∃ H, H = s.heap := ⟨_, rfl⟩
  obtain ⟨locs, hlo⟩ : ∃ L : List Loc, L = [] := ⟨_, rfl⟩
  rw [← hH, ← hlo] at w
  rw [← hH, ← hlo]
  clear hH hlo
  have Sf : CallFix p m c cMo_told 4 s args zT RMo := Sf
  have hx := Sf.1
  have hb := Sf.2.1
  have hown := Sf.2.2.2.1
  have hts := Sf.2.2.2.2
  have hl : lv_has ls 4 [(0, .ref m0), (1, .int x)] := hl
  have hBB := rfZ_B (nf := nf) (sl := sl) (kd := kd) (fi := fi) (V := V) (Pl := Pl) hn hSe hLi hOd hBg
  refine lv_aload_n hx hb dMo_told_0 rfl (lv_at hl 0 rfl) ?_
  refine lv_iconst (v := (nI 0)) hx hb dMo_told_1 (by decide) ?_
  refine pf_Mo_65 Sf w 0 rfl rfl rfl (Nat.le_of_ble_eq_true rfl) (ws' := [(m0, zO 7 [.int (nI n), .ref av, .ref ab, .ref apl, .int (nI stt), .int (nI nf), .ref ase, .ref aco, .ref aen, .int (nI mem), .int (nI kd), .int (nI sl), .ref aor, .ref aba, .int (nI fi), .ref ali, .ref ale, .ref ach, .ref ast, .ref atw, .ref ats, .int (nI tp), .int (nI 0)]), (av, zI G 12 (fun j => nI (V j))), (apl, zI G 12 (fun j => mI (Pl j))), (ase, zI G 16 (fun j => nI (Se j))), (aor, zI G 12 (fun j => nI (Od j))), (aba, zI G 12 (fun j => nI (Bg j))), (ali, zI G 12 (fun j => nI (Li j))), (aco, zI G 16 (fun j => nI (Co j)))]) rfl dMo_told_2 (fun H locs w => ?_)
  refine lv_iload_n hx hb dMo_told_5 rfl (lv_at hl 1 rfl) ?_
  refine lv_i2l hx hb dMo_told_6 rfl ?_
  refine lv_lconst (v := lN 0) hx hb dMo_told_7 (by decide) ?_
  refine lv_ldc2 (v := (lN 9)) hx hb hown (hts _ kc_Mo_155) dMo_told_8 ?_
  refine z_rS (As := [.long x.toInt64, .long (lN 0), .long (lN 9)]) (rest := []) Sf (c_Mo_in l G x.toInt64 (lN 0) (lN 9) ) mv_Mo_71 ⟨rfl, rfl⟩ ⟨Nat.le_of_ble_eq_true rfl, Nat.le_of_ble_eq_true rfl⟩ w.1 [] rfl rfl hl.1 rfl (Nat.le_of_ble_eq_true rfl) dMo_told_11 ⟨Nat.le_of_ble_eq_true rfl, Nat.le_of_ble_eq_true rfl⟩ ?_
  refine z_ifneB (tgt := 20) hx hb dMo_told_14 (by decide) (fun c14 => ?_) (fun c14 => ?_)
  · skip
    have c14b := c14
    obtain ⟨q, -, hq, rfl⟩ := in_nat (by decide) (by decide) c14
    refine lv_aload_n hx hb dMo_told_20 rfl (lv_at hl 0 rfl) ?_
    refine z_wV (wr := [(aco, zI G 16 (fun j => nI (Co j)))]) (As := []) (rest := []) Sf (c_Mo_refresh l G m0 av ab apl ase aco aen aor aba ali ale ach ast atw ats n stt nf mem kd sl fi tp 0 V Pl Se Od Bg Li (by first | assumption | omega) (by first | assumption | omega) (by first | assumption | omega) (by first | assumption | omega) (by first | assumption | omega) (by first | assumption | omega) H.size) mv_Mo_152 ⟨rfl, rfl⟩ ⟨Nat.le_of_ble_eq_true rfl, Nat.le_of_ble_eq_true rfl⟩ w [0, 1, 2, 3, 4, 5, 6] [7] rfl rfl (by decide) (by decide) (by decide) 0 rfl rfl rfl rfl hl.1 rfl (Nat.le_of_ble_eq_true rfl) dMo_told_21 ⟨Nat.le_of_ble_eq_true rfl, Nat.le_of_ble_eq_true rfl⟩ (fun u1 H locs hu1 w => ?_)
    have w := w.eq (ws' := [(aco, zI G 16 (fun j => nI (Co j))), (m0, zO 7 [.int (nI n), .ref av, .ref ab, .ref apl, .int (nI stt), .int (nI nf), .ref ase, .ref aco, .ref aen, .int (nI mem), .int (nI ((rfZ n nf sl kd fi V Pl Se Li Od Bg).2.2.2.1)), .int (nI 0), .ref aor, .ref aba, .int (nI ((rfZ n nf sl kd fi V Pl Se Li Od Bg).2.2.2.2)), .ref ali, .ref ale, .ref ach, .ref ast, .ref atw, .ref ats, .int (nI tp), .int (nI 0)]), (av, zI G 12 (fun j => nI (V j))), (apl, zI G 12 (fun j => mI (Pl j))), (ase, zI G 16 (fun j => nI (Se j))), (aor, zI G 12 (fun j => nI (((rfZ n nf sl kd fi V Pl Se Li Od Bg).2.1) j))), (aba, zI G 12 (fun j => nI (((rfZ n nf sl kd fi V Pl Se Li Od Bg).2.2.1) j))), (ali, zI G 12 (fun j => nI (((rfZ n nf sl kd fi V Pl Se Li Od Bg).1) j)))]) rfl
    refine W.eq (g2 := F0 m 24 ls []) rfl ?_
    rcases (show q = 0 ∨ q = 1 ∨ q = 2 ∨ q = 3 ∨ q = 4 ∨ q = 5 ∨ q = 6 ∨ q = 7 ∨ q = 8 ∨ q = 9 by omega) with rfl | rfl | rfl | rfl | rfl | rfl | rfl | rfl | rfl | rfl
    · skip
      refine lv_iload_n hx hb dMo_told_24 rfl (lv_at hl 1 rfl) ?_
      refine lv_tableIn (off := 51) (tgt := 76) hx hb dMo_told_25 (by decide) (by decide) (by decide) (by decide) ?_
      refine lv_aload_n hx hb dMo_told_76 rfl (lv_at hl 0 rfl) ?_
      refine gf_Mo_68 Sf w.1 1 rfl rfl dMo_told_77 ?_
      have w := w.perm (ws' := [(m0, zO 7 [.int (nI n), .ref av, .ref ab, .ref apl, .int (nI stt), .int (nI nf), .ref ase, .ref aco, .ref aen, .int (nI mem), .int (nI ((rfZ n nf sl kd fi V Pl Se Li Od Bg).2.2.2.1)), .int (nI 0), .ref aor, .ref aba, .int (nI ((rfZ n nf sl kd fi V Pl Se Li Od Bg).2.2.2.2)), .ref ali, .ref ale, .ref ach, .ref ast, .ref atw, .ref ats, .int (nI tp), .int (nI 0)]), (av, zI G 12 (fun j => nI (V j))), (apl, zI G 12 (fun j => mI (Pl j))), (ase, zI G 16 (fun j => nI (Se j))), (aor, zI G 12 (fun j => nI (((rfZ n nf sl kd fi V Pl Se Li Od Bg).2.1) j))), (aba, zI G 12 (fun j => nI (((rfZ n nf sl kd fi V Pl Se Li Od Bg).2.2.1) j))), (ali, zI G 12 (fun j => nI (((rfZ n nf sl kd fi V Pl Se Li Od Bg).1) j))), (aco, zI G 16 (fun j => nI (Co j)))]) [1, 2, 3, 4, 5, 6, 7, 0] (by decide) rfl
      exact hret _ _ _ _ ((rfZ n nf sl kd fi V Pl Se Li Od Bg).1, (rfZ n nf sl kd fi V Pl Se Li Od Bg).2.1, (rfZ n nf sl kd fi V Pl Se Li Od Bg).2.2.1, ((rfZ n nf sl kd fi V Pl Se Li Od Bg).2.2.2.1), ((rfZ n nf sl kd fi V Pl Se Li Od Bg).2.2.2.2), 0) _ _ w (rfl) (oS_b hn hSe hLi hOd hBg) dMo_told_80 (by rw [zif_t c14b]; rfl)
    · skip
      refine lv_iload_n hx hb dMo_told_24 rfl (lv_at hl 1 rfl) ?_
      refine lv_tableIn (off := 56) (tgt := 81) hx hb dMo_told_25 (by decide) (by decide) (by decide) (by decide) ?_
      refine lv_aload_n hx hb dMo_told_81 rfl (lv_at hl 0 rfl) ?_
      refine gf_Mo_79 Sf w.1 1 rfl rfl dMo_told_82 ?_
      have w := w.perm (ws' := [(m0, zO 7 [.int (nI n), .ref av, .ref ab, .ref apl, .int (nI stt), .int (nI nf), .ref ase, .ref aco, .ref aen, .int (nI mem), .int (nI ((rfZ n nf sl kd fi V Pl Se Li Od Bg).2.2.2.1)), .int (nI 0), .ref aor, .ref aba, .int (nI ((rfZ n nf sl kd fi V Pl Se Li Od Bg).2.2.2.2)), .ref ali, .ref ale, .ref ach, .ref ast, .ref atw, .ref ats, .int (nI tp), .int (nI 0)]), (av, zI G 12 (fun j => nI (V j))), (apl, zI G 12 (fun j => mI (Pl j))), (ase, zI G 16 (fun j => nI (Se j))), (aor, zI G 12 (fun j => nI (((rfZ n nf sl kd fi V Pl Se Li Od Bg).2.1) j))), (aba, zI G 12 (fun j => nI (((rfZ n nf sl kd fi V Pl Se Li Od Bg).2.2.1) j))), (ali, zI G 12 (fun j => nI (((rfZ n nf sl kd fi V Pl Se Li Od Bg).1) j))), (aco, zI G 16 (fun j => nI (Co j)))]) [1, 2, 3, 4, 5, 6, 7, 0] (by decide) rfl
      exact hret _ _ _ _ ((rfZ n nf sl kd fi V Pl Se Li Od Bg).1, (rfZ n nf sl kd fi V Pl Se Li Od Bg).2.1, (rfZ n nf sl kd fi V Pl Se Li Od Bg).2.2.1, ((rfZ n nf sl kd fi V Pl Se Li Od Bg).2.2.2.1), ((rfZ n nf sl kd fi V Pl Se Li Od Bg).2.2.2.2), 0) _ _ w (rfl) (oS_b hn hSe hLi hOd hBg) dMo_told_85 (by rw [zif_t c14b]; rfl)
    · skip
      refine lv_iload_n hx hb dMo_told_24 rfl (lv_at hl 1 rfl) ?_
      refine lv_tableIn (off := 61) (tgt := 86) hx hb dMo_told_25 (by decide) (by decide) (by decide) (by decide) ?_
      refine lv_aload_n hx hb dMo_told_86 rfl (lv_at hl 0 rfl) ?_
      refine z_rV (As := []) (rest := []) Sf (c_Mo_allCopies l G m0 av ab apl ase aco aen aor aba ali ale ach ast atw ats n stt nf mem ((rfZ n nf sl kd fi V Pl Se Li Od Bg).2.2.2.1) 0 ((rfZ n nf sl kd fi V Pl Se Li Od Bg).2.2.2.2) tp 0 Co (by first | assumption | omega)) mv_Mo_90 ⟨rfl, rfl⟩ ⟨Nat.le_of_ble_eq_true rfl, Nat.le_of_ble_eq_true rfl⟩ w.1 [1, 0] rfl 1 rfl rfl rfl rfl hl.1 rfl (Nat.le_of_ble_eq_true rfl) dMo_told_87 ⟨Nat.le_of_ble_eq_true rfl, Nat.le_of_ble_eq_true rfl⟩ ?_
      have w := w.perm (ws' := [(m0, zO 7 [.int (nI n), .ref av, .ref ab, .ref apl, .int (nI stt), .int (nI nf), .ref ase, .ref aco, .ref aen, .int (nI mem), .int (nI ((rfZ n nf sl kd fi V Pl Se Li Od Bg).2.2.2.1)), .int (nI 0), .ref aor, .ref aba, .int (nI ((rfZ n nf sl kd fi V Pl Se Li Od Bg).2.2.2.2)), .ref ali, .ref ale, .ref ach, .ref ast, .ref atw, .ref ats, .int (nI tp), .int (nI 0)]), (av, zI G 12 (fun j => nI (V j))), (apl, zI G 12 (fun j => mI (Pl j))), (ase, zI G 16 (fun j => nI (Se j))), (aor, zI G 12 (fun j => nI (((rfZ n nf sl kd fi V Pl Se Li Od Bg).2.1) j))), (aba, zI G 12 (fun j => nI (((rfZ n nf sl kd fi V Pl Se Li Od Bg).2.2.1) j))), (ali, zI G 12 (fun j => nI (((rfZ n nf sl kd fi V Pl Se Li Od Bg).1) j))), (aco, zI G 16 (fun j => nI (Co j)))]) [1, 2, 3, 4, 5, 6, 7, 0] (by decide) rfl
      exact hret _ _ _ _ ((rfZ n nf sl kd fi V Pl Se Li Od Bg).1, (rfZ n nf sl kd fi V Pl Se Li Od Bg).2.1, (rfZ n nf sl kd fi V Pl Se Li Od Bg).2.2.1, ((rfZ n nf sl kd fi V Pl Se Li Od Bg).2.2.2.1), ((rfZ n nf sl kd fi V Pl Se Li Od Bg).2.2.2.2), 0) _ _ w (rfl) (oS_b hn hSe hLi hOd hBg) dMo_told_90 (by rw [zif_t c14b]; rfl)
    · skip
      refine lv_iload_n hx hb dMo_told_24 rfl (lv_at hl 1 rfl) ?_
      refine lv_tableIn (off := 66) (tgt := 91) hx hb dMo_told_25 (by decide) (by decide) (by decide) (by decide) ?_
      refine lv_aload_n hx hb dMo_told_91 rfl (lv_at hl 0 rfl) ?_
      refine gf_Mo_58 Sf w.1 1 rfl rfl dMo_told_92 ?_
      have w := w.perm (ws' := [(m0, zO 7 [.int (nI n), .ref av, .ref ab, .ref apl, .int (nI stt), .int (nI nf), .ref ase, .ref aco, .ref aen, .int (nI mem), .int (nI ((rfZ n nf sl kd fi V Pl Se Li Od Bg).2.2.2.1)), .int (nI 0), .ref aor, .ref aba, .int (nI ((rfZ n nf sl kd fi V Pl Se Li Od Bg).2.2.2.2)), .ref ali, .ref ale, .ref ach, .ref ast, .ref atw, .ref ats, .int (nI tp), .int (nI 0)]), (av, zI G 12 (fun j => nI (V j))), (apl, zI G 12 (fun j => mI (Pl j))), (ase, zI G 16 (fun j => nI (Se j))), (aor, zI G 12 (fun j => nI (((rfZ n nf sl kd fi V Pl Se Li Od Bg).2.1) j))), (aba, zI G 12 (fun j => nI (((rfZ n nf sl kd fi V Pl Se Li Od Bg).2.2.1) j))), (ali, zI G 12 (fun j => nI (((rfZ n nf sl kd fi V Pl Se Li Od Bg).1) j))), (aco, zI G 16 (fun j => nI (Co j)))]) [1, 2, 3, 4, 5, 6, 7, 0] (by decide) rfl
      exact hret _ _ _ _ ((rfZ n nf sl kd fi V Pl Se Li Od Bg).1, (rfZ n nf sl kd fi V Pl Se Li Od Bg).2.1, (rfZ n nf sl kd fi V Pl Se Li Od Bg).2.2.1, ((rfZ n nf sl kd fi V Pl Se Li Od Bg).2.2.2.1), ((rfZ n nf sl kd fi V Pl Se Li Od Bg).2.2.2.2), 0) _ _ w (rfl) (oS_b hn hSe hLi hOd hBg) dMo_told_95 (by rw [zif_t c14b]; rfl)
    · skip
      refine lv_iload_n hx hb dMo_told_24 rfl (lv_at hl 1 rfl) ?_
      refine lv_tableIn (off := 71) (tgt := 96) hx hb dMo_told_25 (by decide) (by decide) (by decide) (by decide) ?_
      refine lv_aload_n hx hb dMo_told_96 rfl (lv_at hl 0 rfl) ?_
      refine z_wV (wr := [(aco, zI G 16 (fun j => nI (Co j))), (av, zI G 12 (fun j => nI (V j))), (apl, zI G 12 (fun j => mI (Pl j))), (aor, zI G 12 (fun j => nI (((rfZ n nf sl kd fi V Pl Se Li Od Bg).2.1) j))), (aba, zI G 12 (fun j => nI (((rfZ n nf sl kd fi V Pl Se Li Od Bg).2.2.1) j)))]) (As := []) (rest := []) Sf (c_Mo_pairs l G m0 av ab apl ase aco aen aor aba ali ale ach ast atw ats n stt nf mem ((rfZ n nf sl kd fi V Pl Se Li Od Bg).2.2.2.1) 0 ((rfZ n nf sl kd fi V Pl Se Li Od Bg).2.2.2.2) tp 0 Se ((rfZ n nf sl kd fi V Pl Se Li Od Bg).1) (by first | assumption | omega) (by first | assumption | omega) (by first | assumption | omega) hBB.1 H.size) mv_Mo_157 ⟨rfl, rfl⟩ ⟨Nat.le_of_ble_eq_true rfl, Nat.le_of_ble_eq_true rfl⟩ w [1, 4, 7] [0, 2, 3, 5, 6] rfl rfl (by decide) (by decide) (by decide) 1 rfl rfl rfl rfl hl.1 rfl (Nat.le_of_ble_eq_true rfl) dMo_told_97 ⟨Nat.le_of_ble_eq_true rfl, Nat.le_of_ble_eq_true rfl⟩ (fun u2 H locs hu2 w => ?_)
      have w := w.eq (ws' := [(aco, zI G 16 (fun j => nI (Co j))), (av, zI G 12 (fun j => nI (V j))), (apl, zI G 12 (fun j => mI (Pl j))), (aor, zI G 12 (fun j => nI (((rfZ n nf sl kd fi V Pl Se Li Od Bg).2.1) j))), (aba, zI G 12 (fun j => nI (((rfZ n nf sl kd fi V Pl Se Li Od Bg).2.2.1) j))), (m0, zO 7 [.int (nI n), .ref av, .ref ab, .ref apl, .int (nI stt), .int (nI nf), .ref ase, .ref aco, .ref aen, .int (nI mem), .int (nI ((rfZ n nf sl kd fi V Pl Se Li Od Bg).2.2.2.1)), .int (nI 0), .ref aor, .ref aba, .int (nI ((rfZ n nf sl kd fi V Pl Se Li Od Bg).2.2.2.2)), .ref ali, .ref ale, .ref ach, .ref ast, .ref atw, .ref ats, .int (nI tp), .int (nI 0)]), (ase, zI G 16 (fun j => nI (Se j))), (ali, zI G 12 (fun j => nI ((rowF ((rfZ n nf sl kd fi V Pl Se Li Od Bg).1) (drF Se nf) n) j)))]) rfl
      refine W.eq (g2 := F0 m 100 ls [.int (nI (popS (drF Se nf) n / 2))]) rfl ?_
      have w := w.perm (ws' := [(m0, zO 7 [.int (nI n), .ref av, .ref ab, .ref apl, .int (nI stt), .int (nI nf), .ref ase, .ref aco, .ref aen, .int (nI mem), .int (nI ((rfZ n nf sl kd fi V Pl Se Li Od Bg).2.2.2.1)), .int (nI 0), .ref aor, .ref aba, .int (nI ((rfZ n nf sl kd fi V Pl Se Li Od Bg).2.2.2.2)), .ref ali, .ref ale, .ref ach, .ref ast, .ref atw, .ref ats, .int (nI tp), .int (nI 0)]), (av, zI G 12 (fun j => nI (V j))), (apl, zI G 12 (fun j => mI (Pl j))), (ase, zI G 16 (fun j => nI (Se j))), (aor, zI G 12 (fun j => nI (((rfZ n nf sl kd fi V Pl Se Li Od Bg).2.1) j))), (aba, zI G 12 (fun j => nI (((rfZ n nf sl kd fi V Pl Se Li Od Bg).2.2.1) j))), (ali, zI G 12 (fun j => nI ((rowF ((rfZ n nf sl kd fi V Pl Se Li Od Bg).1) (drF Se nf) n) j))), (aco, zI G 16 (fun j => nI (Co j)))]) [5, 1, 2, 6, 3, 4, 7, 0] (by decide) rfl
      exact hret _ _ _ _ (rowF ((rfZ n nf sl kd fi V Pl Se Li Od Bg).1) (drF Se nf) n, (rfZ n nf sl kd fi V Pl Se Li Od Bg).2.1, (rfZ n nf sl kd fi V Pl Se Li Od Bg).2.2.1, ((rfZ n nf sl kd fi V Pl Se Li Od Bg).2.2.2.1), ((rfZ n nf sl kd fi V Pl Se Li Od Bg).2.2.2.2), 0) _ _ w (rfl) (oS_c hn hSe hLi hOd hBg (drw_lt hBB.1 hSe)) dMo_told_100 (by rw [zif_t c14b]; rfl)
    · skip
      refine lv_iload_n hx hb dMo_told_24 rfl (lv_at hl 1 rfl) ?_
      refine lv_tableIn (off := 76) (tgt := 101) hx hb dMo_told_25 (by decide) (by decide) (by decide) (by decide) ?_
      refine lv_aload_n hx hb dMo_told_101 rfl (lv_at hl 0 rfl) ?_
      refine gf_Mo_127 Sf w.1 1 rfl rfl dMo_told_102 ?_
      have w := w.perm (ws' := [(m0, zO 7 [.int (nI n), .ref av, .ref ab, .ref apl, .int (nI stt), .int (nI nf), .ref ase, .ref aco, .ref aen, .int (nI mem), .int (nI ((rfZ n nf sl kd fi V Pl Se Li Od Bg).2.2.2.1)), .int (nI 0), .ref aor, .ref aba, .int (nI ((rfZ n nf sl kd fi V Pl Se Li Od Bg).2.2.2.2)), .ref ali, .ref ale, .ref ach, .ref ast, .ref atw, .ref ats, .int (nI tp), .int (nI 0)]), (av, zI G 12 (fun j => nI (V j))), (apl, zI G 12 (fun j => mI (Pl j))), (ase, zI G 16 (fun j => nI (Se j))), (aor, zI G 12 (fun j => nI (((rfZ n nf sl kd fi V Pl Se Li Od Bg).2.1) j))), (aba, zI G 12 (fun j => nI (((rfZ n nf sl kd fi V Pl Se Li Od Bg).2.2.1) j))), (ali, zI G 12 (fun j => nI (((rfZ n nf sl kd fi V Pl Se Li Od Bg).1) j))), (aco, zI G 16 (fun j => nI (Co j)))]) [1, 2, 3, 4, 5, 6, 7, 0] (by decide) rfl
      exact hret _ _ _ _ ((rfZ n nf sl kd fi V Pl Se Li Od Bg).1, (rfZ n nf sl kd fi V Pl Se Li Od Bg).2.1, (rfZ n nf sl kd fi V Pl Se Li Od Bg).2.2.1, ((rfZ n nf sl kd fi V Pl Se Li Od Bg).2.2.2.1), ((rfZ n nf sl kd fi V Pl Se Li Od Bg).2.2.2.2), 0) _ _ w (rfl) (oS_b hn hSe hLi hOd hBg) dMo_told_105 (by rw [zif_t c14b]; rfl)
    · skip
      refine lv_iload_n hx hb dMo_told_24 rfl (lv_at hl 1 rfl) ?_
      refine lv_tableIn (off := 81) (tgt := 106) hx hb dMo_told_25 (by decide) (by decide) (by decide) (by decide) ?_
      refine lv_aload_n hx hb dMo_told_106 rfl (lv_at hl 0 rfl) ?_
      refine z_rV (As := []) (rest := []) Sf (c_Mo_width l G m0 av ab apl ase aco aen aor aba ali ale ach ast atw ats n stt nf mem ((rfZ n nf sl kd fi V Pl Se Li Od Bg).2.2.2.1) 0 ((rfZ n nf sl kd fi V Pl Se Li Od Bg).2.2.2.2) tp 0 ((rfZ n nf sl kd fi V Pl Se Li Od Bg).2.2.1) (by first | assumption | omega) hBB.2.2) mv_Mo_149 ⟨rfl, rfl⟩ ⟨Nat.le_of_ble_eq_true rfl, Nat.le_of_ble_eq_true rfl⟩ w.1 [1, 6] rfl 1 rfl rfl rfl rfl hl.1 rfl (Nat.le_of_ble_eq_true rfl) dMo_told_107 ⟨Nat.le_of_ble_eq_true rfl, Nat.le_of_ble_eq_true rfl⟩ ?_
      have w := w.perm (ws' := [(m0, zO 7 [.int (nI n), .ref av, .ref ab, .ref apl, .int (nI stt), .int (nI nf), .ref ase, .ref aco, .ref aen, .int (nI mem), .int (nI ((rfZ n nf sl kd fi V Pl Se Li Od Bg).2.2.2.1)), .int (nI 0), .ref aor, .ref aba, .int (nI ((rfZ n nf sl kd fi V Pl Se Li Od Bg).2.2.2.2)), .ref ali, .ref ale, .ref ach, .ref ast, .ref atw, .ref ats, .int (nI tp), .int (nI 0)]), (av, zI G 12 (fun j => nI (V j))), (apl, zI G 12 (fun j => mI (Pl j))), (ase, zI G 16 (fun j => nI (Se j))), (aor, zI G 12 (fun j => nI (((rfZ n nf sl kd fi V Pl Se Li Od Bg).2.1) j))), (aba, zI G 12 (fun j => nI (((rfZ n nf sl kd fi V Pl Se Li Od Bg).2.2.1) j))), (ali, zI G 12 (fun j => nI (((rfZ n nf sl kd fi V Pl Se Li Od Bg).1) j))), (aco, zI G 16 (fun j => nI (Co j)))]) [1, 2, 3, 4, 5, 6, 7, 0] (by decide) rfl
      exact hret _ _ _ _ ((rfZ n nf sl kd fi V Pl Se Li Od Bg).1, (rfZ n nf sl kd fi V Pl Se Li Od Bg).2.1, (rfZ n nf sl kd fi V Pl Se Li Od Bg).2.2.1, ((rfZ n nf sl kd fi V Pl Se Li Od Bg).2.2.2.1), ((rfZ n nf sl kd fi V Pl Se Li Od Bg).2.2.2.2), 0) _ _ w (rfl) (oS_b hn hSe hLi hOd hBg) dMo_told_110 (by rw [zif_t c14b]; rfl)
    · skip
      refine lv_iload_n hx hb dMo_told_24 rfl (lv_at hl 1 rfl) ?_
      refine lv_tableIn (off := 86) (tgt := 111) hx hb dMo_told_25 (by decide) (by decide) (by decide) (by decide) ?_
      refine lv_aload_n hx hb dMo_told_111 rfl (lv_at hl 0 rfl) ?_
      refine gf_Mo_113 Sf w.1 1 rfl rfl dMo_told_112 ?_
      have w := w.perm (ws' := [(m0, zO 7 [.int (nI n), .ref av, .ref ab, .ref apl, .int (nI stt), .int (nI nf), .ref ase, .ref aco, .ref aen, .int (nI mem), .int (nI ((rfZ n nf sl kd fi V Pl Se Li Od Bg).2.2.2.1)), .int (nI 0), .ref aor, .ref aba, .int (nI ((rfZ n nf sl kd fi V Pl Se Li Od Bg).2.2.2.2)), .ref ali, .ref ale, .ref ach, .ref ast, .ref atw, .ref ats, .int (nI tp), .int (nI 0)]), (av, zI G 12 (fun j => nI (V j))), (apl, zI G 12 (fun j => mI (Pl j))), (ase, zI G 16 (fun j => nI (Se j))), (aor, zI G 12 (fun j => nI (((rfZ n nf sl kd fi V Pl Se Li Od Bg).2.1) j))), (aba, zI G 12 (fun j => nI (((rfZ n nf sl kd fi V Pl Se Li Od Bg).2.2.1) j))), (ali, zI G 12 (fun j => nI (((rfZ n nf sl kd fi V Pl Se Li Od Bg).1) j))), (aco, zI G 16 (fun j => nI (Co j)))]) [1, 2, 3, 4, 5, 6, 7, 0] (by decide) rfl
      exact hret _ _ _ _ ((rfZ n nf sl kd fi V Pl Se Li Od Bg).1, (rfZ n nf sl kd fi V Pl Se Li Od Bg).2.1, (rfZ n nf sl kd fi V Pl Se Li Od Bg).2.2.1, ((rfZ n nf sl kd fi V Pl Se Li Od Bg).2.2.2.1), ((rfZ n nf sl kd fi V Pl Se Li Od Bg).2.2.2.2), 0) _ _ w (rfl) (oS_b hn hSe hLi hOd hBg) dMo_told_115 (by rw [zif_t c14b]; rfl)
    · skip
      refine lv_iload_n hx hb dMo_told_24 rfl (lv_at hl 1 rfl) ?_
      refine lv_tableIn (off := 91) (tgt := 116) hx hb dMo_told_25 (by decide) (by decide) (by decide) (by decide) ?_
      refine lv_iconst (v := (nI 0)) hx hb dMo_told_116 (by decide) ?_
      refine lv_istore_n (lv' := [(2, .int (nI 0)), (0, .ref m0), (1, .int (nI 8))]) hx hb dMo_told_117 rfl hl (by decide) rfl (fun ls hl => ?_)
      refine lv_iconst (v := (nI 0)) hx hb dMo_told_118 (by decide) ?_
      refine lv_istore_n (lv' := [(3, .int (nI 0)), (2, .int (nI 0)), (0, .ref m0), (1, .int (nI 8))]) hx hb dMo_told_119 rfl hl (by decide) rfl (fun ls hl => ?_)
      have L120 : ∀ (fu120 : Nat) (i t : Nat), (i ≤ n) → (t = csF V (rfZ n nf sl kd fi V Pl Se Li Od Bg).2.2.1 n i) → (n - i) < fu120 → ∀ (H : Heap) (locs : List Loc), zw G A s [(m0, zO 7 [.int (nI n), .ref av, .ref ab, .ref apl, .int (nI stt), .int (nI nf), .ref ase, .ref aco, .ref aen, .int (nI mem), .int (nI ((rfZ n nf sl kd fi V Pl Se Li Od Bg).2.2.2.1)), .int (nI 0), .ref aor, .ref aba, .int (nI ((rfZ n nf sl kd fi V Pl Se Li Od Bg).2.2.2.2)), .ref ali, .ref ale, .ref ach, .ref ast, .ref atw, .ref ats, .int (nI tp), .int (nI 0)]), (av, zI G 12 (fun j => nI (V j))), (apl, zI G 12 (fun j => mI (Pl j))), (ase, zI G 16 (fun j => nI (Se j))), (aor, zI G 12 (fun j => nI (((rfZ n nf sl kd fi V Pl Se Li Od Bg).2.1) j))), (aba, zI G 12 (fun j => nI (((rfZ n nf sl kd fi V Pl Se Li Od Bg).2.2.1) j))), (ali, zI G 12 (fun j => nI (((rfZ n nf sl kd fi V Pl Se Li Od Bg).1) j))), (aco, zI G 16 (fun j => nI (Co j)))] H locs → ∀ (ls : Array Slot), lv_has ls 4 [(3, .int (nI i)), (2, .int (nI t)), (0, .ref m0), (1, .int (nI 8))] → W p l e rm_Mo_told s m args below meth c H locs 0 0 Q (F0 m 120 ls []) := by
        intro fu120
        induction fu120 with
        | zero =>
          intro i t hi ht hm120
          exact absurd hm120 (Nat.not_lt_zero _)
        | succ fu120 ih120 =>
          intro i t hi ht hm120 H locs w ls hl
          refine lv_iload_n hx hb dMo_told_120 rfl (lv_at hl 0 rfl) ?_
          refine lv_aload_n hx hb dMo_told_121 rfl (lv_at hl 2 rfl) ?_
          refine gf_Mo_68 Sf w.1 0 rfl rfl dMo_told_122 ?_
          refine z_icmpge (tgt := 147) hx hb (by omega) (by omega) dMo_told_125 (by decide) (fun c125 => ?_) (fun c125 => ?_)
          · skip
            refine lv_iload_n hx hb dMo_told_147 rfl (lv_at hl 1 rfl) ?_
            exact hret _ _ _ _ ((rfZ n nf sl kd fi V Pl Se Li Od Bg).1, (rfZ n nf sl kd fi V Pl Se Li Od Bg).2.1, (rfZ n nf sl kd fi V Pl Se Li Od Bg).2.2.1, ((rfZ n nf sl kd fi V Pl Se Li Od Bg).2.2.2.1), ((rfZ n nf sl kd fi V Pl Se Li Od Bg).2.2.2.2), 0) _ _ w (rfl) (oS_b hn hSe hLi hOd hBg) dMo_told_148 (by rw [zif_t c14b, ht, show i = n by omega]; rfl)
          · skip
            refine lv_iload_n hx hb dMo_told_128 rfl (lv_at hl 1 rfl) ?_
            refine lv_aload_n hx hb dMo_told_129 rfl (lv_at hl 2 rfl) ?_
            refine lv_aload_n hx hb dMo_told_130 rfl (lv_at hl 2 rfl) ?_
            refine gf_Mo_31 Sf w.1 0 rfl rfl dMo_told_131 ?_
            refine lv_iload_n hx hb dMo_told_134 rfl (lv_at hl 0 rfl) ?_
            refine z_iald hx hb w.1 5 (k := i) rfl (by omega) (by omega) dMo_told_135 ?_
            refine z_rV (As := [.int (nI (((rfZ n nf sl kd fi V Pl Se Li Od Bg).2.2.1) i))]) (rest := [.int (nI t)]) Sf (c_Mo_cells l G m0 av ab apl ase aco aen aor aba ali ale ach ast atw ats n stt nf mem ((rfZ n nf sl kd fi V Pl Se Li Od Bg).2.2.2.1) 0 ((rfZ n nf sl kd fi V Pl Se Li Od Bg).2.2.2.2) tp 0 V (((rfZ n nf sl kd fi V Pl Se Li Od Bg).2.2.1) i) (by first | assumption | omega) (hBB.2.2 i)) mv_Mo_97 ⟨rfl, rfl⟩ ⟨Nat.le_of_ble_eq_true rfl, Nat.le_of_ble_eq_true rfl⟩ w.1 [0, 1] rfl 0 rfl rfl rfl rfl hl.1 rfl (Nat.le_of_ble_eq_true rfl) dMo_told_136 ⟨Nat.le_of_ble_eq_true rfl, Nat.le_of_ble_eq_true rfl⟩ ?_
            refine z_addN hx hb dMo_told_139 ?_
            refine lv_istore_n (lv' := [(2, .int (nI (t + (cellsF V (((rfZ n nf sl kd fi V Pl Se Li Od Bg).2.2.1) i) n)))), (3, .int (nI i)), (0, .ref m0), (1, .int (nI 8))]) hx hb dMo_told_140 rfl hl (by decide) rfl (fun ls hl => ?_)
            refine z_iinc (d := 1) (lv' := [(3, .int (nI (i + 1))), (2, .int (nI (t + (cellsF V (((rfZ n nf sl kd fi V Pl Se Li Od Bg).2.2.1) i) n)))), (0, .ref m0), (1, .int (nI 8))]) hx hb dMo_told_141 hl (k := 1) rfl (by decide) (by decide) rfl (fun ls hl => ?_)
            refine lv_goto (tgt := 120) hx hb dMo_told_144 (by decide) ?_
            refine ih120 (i + 1) (t + (cellsF V (((rfZ n nf sl kd fi V Pl Se Li Od Bg).2.2.1) i) n)) ?_ ?_ ?_ _ _ w ls (lv_sub hl [0, 1, 2, 3] rfl)
            · omega
            · rw [ht]; rfl
            · omega
      refine L120 ((n - 0) + 1) 0 0 ?_ ?_ ?_ _ _ (w.perm [1, 2, 3, 4, 5, 6, 7, 0] (by decide) rfl) ls (lv_sub hl [0, 1, 2, 3] rfl)
      · omega
      · rfl
      · exact Nat.lt_succ_self _
    · skip
      refine lv_iload_n hx hb dMo_told_24 rfl (lv_at hl 1 rfl) ?_
      refine lv_tableOut (tgt := 149) hx hb dMo_told_25 (by decide) (by decide) ?_
      refine lv_aload_n hx hb dMo_told_149 rfl (lv_at hl 0 rfl) ?_
      refine z_rV (As := []) (rest := []) Sf (c_Mo_mostCells l G m0 av ab apl ase aco aen aor aba ali ale ach ast atw ats n stt nf mem ((rfZ n nf sl kd fi V Pl Se Li Od Bg).2.2.2.1) 0 ((rfZ n nf sl kd fi V Pl Se Li Od Bg).2.2.2.2) tp 0 V ((rfZ n nf sl kd fi V Pl Se Li Od Bg).2.2.1) (by first | assumption | omega) (by first | assumption | omega) hBB.2.2) mv_Mo_160 ⟨rfl, rfl⟩ ⟨Nat.le_of_ble_eq_true rfl, Nat.le_of_ble_eq_true rfl⟩ w.1 [1, 2, 6] rfl 1 rfl rfl rfl rfl hl.1 rfl (Nat.le_of_ble_eq_true rfl) dMo_told_150 ⟨Nat.le_of_ble_eq_true rfl, Nat.le_of_ble_eq_true rfl⟩ ?_
      have w := w.perm (ws' := [(m0, zO 7 [.int (nI n), .ref av, .ref ab, .ref apl, .int (nI stt), .int (nI nf), .ref ase, .ref aco, .ref aen, .int (nI mem), .int (nI ((rfZ n nf sl kd fi V Pl Se Li Od Bg).2.2.2.1)), .int (nI 0), .ref aor, .ref aba, .int (nI ((rfZ n nf sl kd fi V Pl Se Li Od Bg).2.2.2.2)), .ref ali, .ref ale, .ref ach, .ref ast, .ref atw, .ref ats, .int (nI tp), .int (nI 0)]), (av, zI G 12 (fun j => nI (V j))), (apl, zI G 12 (fun j => mI (Pl j))), (ase, zI G 16 (fun j => nI (Se j))), (aor, zI G 12 (fun j => nI (((rfZ n nf sl kd fi V Pl Se Li Od Bg).2.1) j))), (aba, zI G 12 (fun j => nI (((rfZ n nf sl kd fi V Pl Se Li Od Bg).2.2.1) j))), (ali, zI G 12 (fun j => nI (((rfZ n nf sl kd fi V Pl Se Li Od Bg).1) j))), (aco, zI G 16 (fun j => nI (Co j)))]) [1, 2, 3, 4, 5, 6, 7, 0] (by decide) rfl
      exact hret _ _ _ _ ((rfZ n nf sl kd fi V Pl Se Li Od Bg).1, (rfZ n nf sl kd fi V Pl Se Li Od Bg).2.1, (rfZ n nf sl kd fi V Pl Se Li Od Bg).2.2.1, ((rfZ n nf sl kd fi V Pl Se Li Od Bg).2.2.2.1), ((rfZ n nf sl kd fi V Pl Se Li Od Bg).2.2.2.2), 0) _ _ w (rfl) (oS_b hn hSe hLi hOd hBg) dMo_told_153 (by rw [zif_t c14b]; rfl)
  · skip
    refine lv_bipush (v := (-2)) hx hb dMo_told_17 (by decide) ?_
    exact hret _ _ _ _ (Li, Od, Bg, kd, fi, sl) _ _ w (rfl) (oS_a hLi hOd hBg hsl) dMo_told_19 (by rw [zif_f c14])
