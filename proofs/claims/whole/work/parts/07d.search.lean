def rm_Search_forget : Room := { frames := 0, cells := 0, slots := 0, locals := 0 }
set_option maxHeartbeats 4000000 in
set_option maxRecDepth 100000 in
theorem c_Search_forget (l : Launch) (G : zG) (s0 g fo ce le kn cn : Nat)  (sz : Nat) : Met l ySe_forget (.code ySe_forget cSe_forget 1 none :: zT) rm_Search_forget (zPw G [.ref s0] [(s0, zO 3 [.ref g, .ref fo, .ref ce, .ref le, .int (nI cn), .int (nI kn)])] sz) (zQ (S := Unit) G (fun u => none) (fun u => [(s0, zO 3 [.ref g, .ref fo, .ref ce, .ref le, .int (nI cn), .int (nI 0)])]) (va_A [(s0, zO 3 [.ref g, .ref fo, .ref ce, .ref le, .int (nI cn), .int (nI kn)])] sz) (fun u => True)) 0 0 (va_A [(s0, zO 3 [.ref g, .ref fo, .ref ce, .ref le, .int (nI cn), .int (nI kn)])] sz) := by
  refine z_metWv (by decide) (Nat.le_of_ble_eq_true rfl) (fun p e s m args below meth c ls A Q Sf hnm w hl hret => ?_)
  obtain ⟨H, hH⟩ : ∃ H, H = s.heap := ⟨_, rfl⟩
  obtain ⟨locs, hlo⟩ : ∃ L : List Loc, L = [] := ⟨_, rfl⟩
  rw [← hH, ← hlo] at w
  rw [← hH, ← hlo]
  clear hH hlo
  have Sf : CallFix p m c cSe_forget 1 s args zT RSe := Sf
  have hx := Sf.1
  have hb := Sf.2.1
  have hown := Sf.2.2.2.1
  have hts := Sf.2.2.2.2
  have hl : lv_has ls 1 [(0, .ref s0)] := hl
  refine lv_aload_n hx hb dSe_forget_0 rfl (lv_at hl 0 rfl) ?_
  refine lv_iconst (v := (nI 0)) hx hb dSe_forget_1 (by decide) ?_
  refine pf_Se_25 Sf w 0 rfl rfl rfl (Nat.le_of_ble_eq_true rfl) (ws' := [(s0, zO 3 [.ref g, .ref fo, .ref ce, .ref le, .int (nI cn), .int (nI 0)])]) rfl dSe_forget_2 (fun H locs w => ?_)
  exact hret _ _ _ _ () _ w (rfl) (trivial) dSe_forget_5 rfl

def rm_Search_leastWidth : Room := { frames := 3, cells := 0, slots := 0, locals := 102 }
set_option maxHeartbeats 4000000 in
set_option maxRecDepth 100000 in
theorem c_Search_leastWidth (l : Launch) (G : zG) (s0 fo ce le : Nat) (g av an : Nat) (n : Nat) (st : Int32) (kn cn : Nat) (Nb Le : Nat → Nat) (hn : n ≤ 12) (hN : ∀ i, Nb i < 4096) (hLe : ∀ i, Le i ≤ 268435457) (sz : Nat) : Met l ySe_leastWidth (.code ySe_leastWidth cSe_leastWidth 7 (some .int) :: zT) rm_Search_leastWidth (zPw G [.ref s0] [(s0, zO 3 [.ref g, .ref fo, .ref ce, .ref le, .int (nI cn), .int (nI kn)]), (g, zO 2 [.ref av, .ref an, .int (nI n), .int st]), (an, zI G 12 (fun j => nI (Nb j))), (le, zI G 4096 (fun j => mI (Le j)))] sz) (zQ (S := Unit) G (fun u => some (.int (mI (lwR Nb Le n (2 ^ n - 1) 0)))) (fun u => [(s0, zO 3 [.ref g, .ref fo, .ref ce, .ref le, .int (nI cn), .int (nI kn)]), (g, zO 2 [.ref av, .ref an, .int (nI n), .int st]), (an, zI G 12 (fun j => nI (Nb j))), (le, zI G 4096 (fun j => mI ((lwR Nb Le n (2 ^ n - 1)) j)))]) (va_A [(s0, zO 3 [.ref g, .ref fo, .ref ce, .ref le, .int (nI cn), .int (nI kn)]), (g, zO 2 [.ref av, .ref an, .int (nI n), .int st]), (an, zI G 12 (fun j => nI (Nb j))), (le, zI G 4096 (fun j => mI (Le j)))] sz) (fun u => True)) 0 0 (va_A [(s0, zO 3 [.ref g, .ref fo, .ref ce, .ref le, .int (nI cn), .int (nI kn)]), (g, zO 2 [.ref av, .ref an, .int (nI n), .int st]), (an, zI G 12 (fun j => nI (Nb j))), (le, zI G 4096 (fun j => mI (Le j)))] sz) := by
  refine z_metWi (by decide) (Nat.le_of_ble_eq_true rfl) (fun p e s m args below meth c ls A Q Sf hnm w hl hret => ?_)
  obtain ⟨H, hH⟩ : ∃ H, H = s.heap := ⟨_, rfl⟩
  obtain ⟨locs, hlo⟩ : ∃ L : List Loc, L = [] := ⟨_, rfl⟩
  rw [← hH, ← hlo] at w
  rw [← hH, ← hlo]
  clear hH hlo
  have Sf : CallFix p m c cSe_leastWidth 7 s args zT RSe := Sf
  have hx := Sf.1
  have hb := Sf.2.1
  have hown := Sf.2.2.2.1
  have hts := Sf.2.2.2.2
  have hl : lv_has ls 7 [(0, .ref s0)] := hl
  have h2n : 1 ≤ 2 ^ n := Nat.one_le_two_pow
  have h2m : 2 ^ n ≤ 4096 := Nat.pow_le_pow_right (by decide) hn
  refine lv_aload_n hx hb dSe_leastWidth_0 rfl (lv_at hl 0 rfl) ?_
  refine gf_Se_21 Sf w.1 0 rfl rfl dSe_leastWidth_1 ?_
  refine z_rV (As := []) (rest := []) Sf (c_Graph_everyName l G g av an n st (by first | assumption | omega)) mv_Se_43 ⟨rfl, rfl⟩ ⟨Nat.le_of_ble_eq_true rfl, Nat.le_of_ble_eq_true rfl⟩ w.1 [1] rfl 1 rfl rfl rfl rfl hl.1 rfl (Nat.le_of_ble_eq_true rfl) dSe_leastWidth_4 ⟨Nat.le_of_ble_eq_true rfl, Nat.le_of_ble_eq_true rfl⟩ ?_
  refine lv_istore_n (lv' := [(1, .int (nI (2 ^ n - 1))), (0, .ref s0)]) hx hb dSe_leastWidth_7 rfl hl (by decide) rfl (fun ls hl => ?_)
  refine lv_aload_n hx hb dSe_leastWidth_8 rfl (lv_at hl 1 rfl) ?_
  refine gf_Se_18 Sf w.1 0 rfl rfl dSe_leastWidth_9 ?_
  refine lv_iload_n hx hb dSe_leastWidth_12 rfl (lv_at hl 0 rfl) ?_
  refine lv_iconst (v := (mI 0)) hx hb dSe_leastWidth_13 (by decide) ?_
  refine z_iastM hx hb w 3 (k := (2 ^ n - 1)) rfl (by omega) (by omega) (ws' := [(s0, zO 3 [.ref g, .ref fo, .ref ce, .ref le, .int (nI cn), .int (nI kn)]), (g, zO 2 [.ref av, .ref an, .int (nI n), .int st]), (an, zI G 12 (fun j => nI (Nb j))), (le, zI G 4096 (fun j => mI ((va_up Le (2 ^ n - 1) 0) j)))]) rfl dSe_leastWidth_14 (fun H locs w => ?_)
  refine lv_iload_n hx hb dSe_leastWidth_15 rfl (lv_at hl 0 rfl) ?_
  refine lv_iconst (v := (nI 1)) hx hb dSe_leastWidth_16 (by decide) ?_
  refine z_subM hx hb dSe_leastWidth_17 ?_
  refine lv_istore_n (lv' := [(2, .int (mI (2 ^ n - 1))), (1, .int (nI (2 ^ n - 1))), (0, .ref s0)]) hx hb dSe_leastWidth_18 rfl hl (by decide) rfl (fun ls hl => ?_)
  have L19 : ∀ (fu19 : Nat) (t : Nat) (F1 : Nat → Nat), (t ≤ 2 ^ n - 1) → (F1 = lwR Nb Le n (2 ^ n - 1 - t)) → (t) < fu19 → ∀ (H : Heap) (locs : List Loc), zw G A s [(s0, zO 3 [.ref g, .ref fo, .ref ce, .ref le, .int (nI cn), .int (nI kn)]), (g, zO 2 [.ref av, .ref an, .int (nI n), .int st]), (an, zI G 12 (fun j => nI (Nb j))), (le, zI G 4096 (fun j => mI (F1 j)))] H locs → ∀ (ls : Array Slot), lv_has ls 7 [(2, .int (mI t)), (1, .int (nI (2 ^ n - 1))), (0, .ref s0)] → W p l e rm_Search_leastWidth s m args below meth c H locs 0 0 Q (F0 m 19 ls []) := by
    intro fu19
    induction fu19 with
    | zero =>
      intro t F1 ht hF1 hm19
      exact absurd hm19 (Nat.not_lt_zero _)
    | succ fu19 ih19 =>
      intro t F1 ht hF1 hm19 H locs w ls hl
      refine lv_iload_n hx hb dSe_leastWidth_19 rfl (lv_at hl 0 rfl) ?_
      refine z_ifltM (tgt := 119) hx hb (by omega) dSe_leastWidth_20 (by decide) (fun c20 => ?_) (fun c20 => ?_)
      · skip
        refine lv_aload_n hx hb dSe_leastWidth_119 rfl (lv_at hl 2 rfl) ?_
        refine gf_Se_18 Sf w.1 0 rfl rfl dSe_leastWidth_120 ?_
        refine lv_iconst (v := (nI 0)) hx hb dSe_leastWidth_123 (by decide) ?_
        refine z_iald hx hb w.1 3 (k := 0) rfl (by omega) (by omega) dSe_leastWidth_124 ?_
        exact hret _ _ _ _ () _ _ w (by rw [hF1, c20, Nat.sub_zero]) (trivial) dSe_leastWidth_125 (by rw [hF1, c20, Nat.sub_zero])
      · skip
        obtain ⟨t2, rfl⟩ : ∃ t2, t = t2 + 1 := ⟨t - 1, by omega⟩
        have hl : lv_has ls 7 [(2, .int (nI t2)), (1, .int (nI (2 ^ n - 1))), (0, .ref s0)] := by simpa only [mI_s] using hl
        refine lv_bipush (v := nI 12) hx hb dSe_leastWidth_23 (by decide) ?_
        refine lv_istore_n (lv' := [(3, .int (nI 12)), (2, .int (nI t2)), (1, .int (nI (2 ^ n - 1))), (0, .ref s0)]) hx hb dSe_leastWidth_25 rfl hl (by decide) rfl (fun ls hl => ?_)
        refine lv_iconst (v := (nI 0)) hx hb dSe_leastWidth_26 (by decide) ?_
        refine lv_istore (lv' := [(4, .int (nI 0)), (3, .int (nI 12)), (2, .int (nI t2)), (1, .int (nI (2 ^ n - 1))), (0, .ref s0)]) hx hb dSe_leastWidth_27 hl (by decide) rfl (fun ls hl => ?_)
        have L29 : ∀ (fu29 : Nat) (a b : Nat), (a ≤ n) → (b = lwC Nb F1 n t2 a) → (n - a) < fu29 → ∀ (H : Heap) (locs : List Loc), zw G A s [(s0, zO 3 [.ref g, .ref fo, .ref ce, .ref le, .int (nI cn), .int (nI kn)]), (g, zO 2 [.ref av, .ref an, .int (nI n), .int st]), (an, zI G 12 (fun j => nI (Nb j))), (le, zI G 4096 (fun j => mI (F1 j)))] H locs → ∀ (ls : Array Slot), lv_has ls 7 [(4, .int (nI a)), (3, .int (mI b)), (2, .int (nI t2)), (1, .int (nI (2 ^ n - 1))), (0, .ref s0)] → W p l e rm_Search_leastWidth s m args below meth c H locs 0 0 Q (F0 m 29 ls []) := by
          intro fu29
          induction fu29 with
          | zero =>
            intro a b ha hb1 hm29
            exact absurd hm29 (Nat.not_lt_zero _)
          | succ fu29 ih29 =>
            intro a b ha hb1 hm29 H locs w ls hl
            have hFle : ∀ i, F1 i ≤ 268435457 := fun i => by rw [hF1]; exact lwR_le hLe _ i
            have hb2 : b ≤ 13 := by rw [hb1]; exact lwC_le a
            refine lv_iload hx hb dSe_leastWidth_29 (lv_at hl 0 rfl) ?_
            refine lv_aload_n hx hb dSe_leastWidth_31 rfl (lv_at hl 4 rfl) ?_
            refine gf_Se_21 Sf w.1 0 rfl rfl dSe_leastWidth_32 ?_
            refine gf_Se_56 Sf w.1 1 rfl rfl dSe_leastWidth_35 ?_
            refine z_icmpge (tgt := 106) hx hb (by omega) (by omega) dSe_leastWidth_38 (by decide) (fun c38 => ?_) (fun c38 => ?_)
            · skip
              refine lv_aload_n hx hb dSe_leastWidth_106 rfl (lv_at hl 4 rfl) ?_
              refine gf_Se_18 Sf w.1 0 rfl rfl dSe_leastWidth_107 ?_
              refine lv_iload_n hx hb dSe_leastWidth_110 rfl (lv_at hl 2 rfl) ?_
              refine lv_iload_n hx hb dSe_leastWidth_111 rfl (lv_at hl 1 rfl) ?_
              refine z_iastM hx hb w 3 (k := t2) rfl (by omega) (by omega) (ws' := [(s0, zO 3 [.ref g, .ref fo, .ref ce, .ref le, .int (nI cn), .int (nI kn)]), (g, zO 2 [.ref av, .ref an, .int (nI n), .int st]), (an, zI G 12 (fun j => nI (Nb j))), (le, zI G 4096 (fun j => mI ((va_up F1 t2 b) j)))]) rfl dSe_leastWidth_112 (fun H locs w => ?_)
              refine lv_iinc (v := (mI t2)) (lv' := [(2, .int (mI t2)), (4, .int (nI a)), (3, .int (mI b)), (1, .int (nI (2 ^ n - 1))), (0, .ref s0)]) hx hb dSe_leastWidth_113 hl (k := 2) rfl (mI_dec t2) (by decide) rfl (fun ls hl => ?_)
              refine lv_goto (tgt := 19) hx hb dSe_leastWidth_116 (by decide) ?_
              refine ih19 t2 (va_up F1 t2 b) ?_ ?_ ?_ _ _ w ls (lv_sub hl [0, 3, 4] rfl)
              · omega
              · rw [hb1, show a = n by omega, show 2 ^ n - 1 - t2 = (2 ^ n - 1 - (t2 + 1)) + 1 by omega]; simp only [lwR]; rw [← hF1, show 2 ^ n - 1 - 1 - (2 ^ n - 1 - (t2 + 1)) = t2 by omega]
              · omega
            · skip
              have hz := or_lt2 (show t2 < 2 ^ n by omega) (pw_lt2 (show a < n by omega))
              have hr2 := hFle (t2 ||| 2 ^ a)
              have hbg : bagF Nb n a t2 < 4096 := bagF_lt hN (by omega)
              have hpp := popc_le _ hbg
              refine lv_iload_n hx hb dSe_leastWidth_41 rfl (lv_at hl 2 rfl) ?_
              refine lv_iconst (v := (nI 1)) hx hb dSe_leastWidth_42 (by decide) ?_
              refine lv_iload hx hb dSe_leastWidth_43 (lv_at hl 0 rfl) ?_
              refine z_shl1 hx hb (by omega) dSe_leastWidth_45 ?_
              refine z_orN hx hb dSe_leastWidth_46 ?_
              refine lv_istore (lv' := [(5, .int (nI (t2 ||| (2 ^ a)))), (4, .int (nI a)), (3, .int (mI b)), (2, .int (nI t2)), (1, .int (nI (2 ^ n - 1))), (0, .ref s0)]) hx hb dSe_leastWidth_47 hl (by decide) rfl (fun ls hl => ?_)
              refine lv_iload hx hb dSe_leastWidth_49 (lv_at hl 0 rfl) ?_
              refine lv_iload_n hx hb dSe_leastWidth_51 rfl (lv_at hl 3 rfl) ?_
              refine z_icmpeq (tgt := 100) hx hb (by omega) (by omega) dSe_leastWidth_52 (by decide) (fun c52 => ?_) (fun c52 => ?_)
              · skip
                refine z_iinc (d := 1) (lv' := [(4, .int (nI (a + 1))), (5, .int (nI (t2 ||| (2 ^ a)))), (3, .int (mI b)), (2, .int (nI t2)), (1, .int (nI (2 ^ n - 1))), (0, .ref s0)]) hx hb dSe_leastWidth_100 hl (k := 1) rfl (by decide) (by decide) rfl (fun ls hl => ?_)
                refine lv_goto (tgt := 29) hx hb dSe_leastWidth_103 (by decide) ?_
                refine ih29 (a + 1) _ ?_ ?_ ?_ _ _ w ls (lv_sub hl [0, 2, 3, 4, 5] rfl)
                · omega
                · first | (rw [lwC_o (orb c52), hb1]; done) | (rw [lwC_i (orbn c52), ← hb1]; done) | (rw [lwC_i (orbn c52), ← hb1]; omega)
                · omega
              · skip
                refine lv_aload_n hx hb dSe_leastWidth_55 rfl (lv_at hl 5 rfl) ?_
                refine gf_Se_18 Sf w.1 0 rfl rfl dSe_leastWidth_56 ?_
                refine lv_iload hx hb dSe_leastWidth_59 (lv_at hl 0 rfl) ?_
                refine z_iald hx hb w.1 3 (k := (t2 ||| (2 ^ a))) rfl (by omega) (by omega) dSe_leastWidth_61 ?_
                refine lv_iload_n hx hb dSe_leastWidth_62 rfl (lv_at hl 2 rfl) ?_
                refine z_icmpgeMM (tgt := 100) hx hb (by omega) (by omega) dSe_leastWidth_63 (by decide) (fun c63 => ?_) (fun c63 => ?_)
                · skip
                  refine z_iinc (d := 1) (lv' := [(4, .int (nI (a + 1))), (5, .int (nI (t2 ||| (2 ^ a)))), (3, .int (mI b)), (2, .int (nI t2)), (1, .int (nI (2 ^ n - 1))), (0, .ref s0)]) hx hb dSe_leastWidth_100 hl (k := 1) rfl (by decide) (by decide) rfl (fun ls hl => ?_)
                  refine lv_goto (tgt := 29) hx hb dSe_leastWidth_103 (by decide) ?_
                  refine ih29 (a + 1) _ ?_ ?_ ?_ _ _ w ls (lv_sub hl [0, 2, 3, 4, 5] rfl)
                  · omega
                  · first | (rw [lwC_o (orb c52), hb1]; done) | (rw [lwC_i (orbn c52), ← hb1]; done) | (rw [lwC_i (orbn c52), ← hb1]; omega)
                  · omega
                · skip
                  refine lv_aload_n hx hb dSe_leastWidth_66 rfl (lv_at hl 5 rfl) ?_
                  refine gf_Se_21 Sf w.1 0 rfl rfl dSe_leastWidth_67 ?_
                  refine lv_iload hx hb dSe_leastWidth_70 (lv_at hl 1 rfl) ?_
                  refine lv_iload_n hx hb dSe_leastWidth_72 rfl (lv_at hl 3 rfl) ?_
                  refine z_rV (As := [.int (nI a), .int (nI t2)]) (rest := []) Sf (c_Graph_bagOf l G g av an n st Nb a t2 (by first | assumption | omega) (by first | assumption | omega) (by first | assumption | omega)) mv_Se_59 ⟨rfl, rfl⟩ ⟨Nat.le_of_ble_eq_true rfl, Nat.le_of_ble_eq_true rfl⟩ w.1 [1, 2] rfl 1 rfl rfl rfl rfl hl.1 rfl (Nat.le_of_ble_eq_true rfl) dSe_leastWidth_73 ⟨Nat.le_of_ble_eq_true rfl, Nat.le_of_ble_eq_true rfl⟩ ?_
                  refine z_rS (As := [.int (nI (bagF Nb n a t2))]) (rest := []) Sf (c_bitCount l G (bagF Nb n a t2) hbg) mv_Se_63 ⟨rfl, rfl⟩ ⟨Nat.le_of_ble_eq_true rfl, Nat.le_of_ble_eq_true rfl⟩ w.1 [] rfl rfl hl.1 rfl (Nat.le_of_ble_eq_true rfl) dSe_leastWidth_76 ⟨Nat.le_of_ble_eq_true rfl, Nat.le_of_ble_eq_true rfl⟩ ?_
                  refine lv_iconst (v := (nI 1)) hx hb dSe_leastWidth_79 (by decide) ?_
                  refine z_subM hx hb dSe_leastWidth_80 ?_
                  refine lv_istore (lv' := [(6, .int (mI (popc (bagF Nb n a t2)))), (5, .int (nI (t2 ||| (2 ^ a)))), (4, .int (nI a)), (3, .int (mI b)), (2, .int (nI t2)), (1, .int (nI (2 ^ n - 1))), (0, .ref s0)]) hx hb dSe_leastWidth_81 hl (by decide) rfl (fun ls hl => ?_)
                  refine lv_iload_n hx hb dSe_leastWidth_83 rfl (lv_at hl 3 rfl) ?_
                  refine lv_iload hx hb dSe_leastWidth_84 (lv_at hl 0 rfl) ?_
                  refine lv_aload_n hx hb dSe_leastWidth_86 rfl (lv_at hl 6 rfl) ?_
                  refine gf_Se_18 Sf w.1 0 rfl rfl dSe_leastWidth_87 ?_
                  refine lv_iload hx hb dSe_leastWidth_90 (lv_at hl 1 rfl) ?_
                  refine z_iald hx hb w.1 3 (k := (t2 ||| (2 ^ a))) rfl (by omega) (by omega) dSe_leastWidth_92 ?_
                  refine z_mmaxZ Sf mv_Se_68 hl.1 ⟨Nat.le_of_ble_eq_true rfl, Nat.le_of_ble_eq_true rfl⟩ (Nat.le_of_ble_eq_true rfl) ⟨Nat.le_of_ble_eq_true rfl, Nat.le_of_ble_eq_true rfl⟩ dSe_leastWidth_93 ?_
                  rw [mxM (by omega) (by omega)]
                  refine z_mminZ Sf mv_Se_73 hl.1 ⟨Nat.le_of_ble_eq_true rfl, Nat.le_of_ble_eq_true rfl⟩ (Nat.le_of_ble_eq_true rfl) ⟨Nat.le_of_ble_eq_true rfl, Nat.le_of_ble_eq_true rfl⟩ dSe_leastWidth_96 ?_
                  rw [mnM (by omega) (by omega)]
                  refine lv_istore_n (lv' := [(3, .int (mI (min b (max (popc (bagF Nb n a t2)) (F1 (t2 ||| (2 ^ a))))))), (6, .int (mI (popc (bagF Nb n a t2)))), (5, .int (nI (t2 ||| (2 ^ a)))), (4, .int (nI a)), (2, .int (nI t2)), (1, .int (nI (2 ^ n - 1))), (0, .ref s0)]) hx hb dSe_leastWidth_99 rfl hl (by decide) rfl (fun ls hl => ?_)
                  refine z_iinc (d := 1) (lv' := [(4, .int (nI (a + 1))), (3, .int (mI (min b (max (popc (bagF Nb n a t2)) (F1 (t2 ||| (2 ^ a))))))), (6, .int (mI (popc (bagF Nb n a t2)))), (5, .int (nI (t2 ||| (2 ^ a)))), (2, .int (nI t2)), (1, .int (nI (2 ^ n - 1))), (0, .ref s0)]) hx hb dSe_leastWidth_100 hl (k := 3) rfl (by decide) (by decide) rfl (fun ls hl => ?_)
                  refine lv_goto (tgt := 29) hx hb dSe_leastWidth_103 (by decide) ?_
                  refine ih29 (a + 1) (min b (max (popc (bagF Nb n a t2)) (F1 (t2 ||| (2 ^ a))))) ?_ ?_ ?_ _ _ w ls (lv_sub hl [0, 1, 4, 5, 6] rfl)
                  · omega
                  · first | (rw [lwC_o (orb c52), hb1]; done) | (rw [lwC_i (orbn c52), ← hb1]; done) | (rw [lwC_i (orbn c52), ← hb1]; omega)
                  · omega
        have hl : lv_has ls 7 [(4, .int (nI 0)), (3, .int (mI (12 + 1))), (2, .int (nI t2)), (1, .int (nI (2 ^ n - 1))), (0, .ref s0)] := by simpa only [mI_s] using hl
        refine L29 ((n - 0) + 1) 0 (12 + 1) ?_ ?_ ?_ _ _ w ls (lv_sub hl [0, 1, 2, 3, 4] rfl)
        · omega
        · rfl
        · exact Nat.lt_succ_self _
  refine L19 (((2 ^ n - 1)) + 1) (2 ^ n - 1) (va_up Le (2 ^ n - 1) 0) ?_ ?_ ?_ _ _ w ls (lv_sub hl [0, 1, 2] rfl)
  · omega
  · rw [Nat.sub_self]; rfl
  · exact Nat.lt_succ_self _

def rm_Search_cellsFrom : Room := { frames := 3, cells := 0, slots := 0, locals := 102 }
set_option maxHeartbeats 4000000 in
set_option maxRecDepth 100000 in
theorem c_Search_cellsFrom (l : Launch) (G : zG) (s0 fo ce le : Nat) (g av an : Nat) (n : Nat) (st : Int32) (kn cn : Nat) (Nb Lc Le : Nat → Nat) (a o wd : Nat) (hn : n ≤ 12) (hN : ∀ i, Nb i < 4096) (hLe : ∀ i, Le i ≤ 268435457) (hLc : ∀ i, Lc i ≤ 16777216) (ha : a < n) (ho : o < 2 ^ n) (hwd : wd ≤ 268435457) (hbn : bagF Nb n a o < 2 ^ n) : Met l ySe_cellsFrom (.code ySe_cellsFrom cSe_cellsFrom 6 (some .int) :: zT) rm_Search_cellsFrom (zPr G [.ref s0, .int (nI a), .int (nI o), .int (mI wd)] [(s0, zO 3 [.ref g, .ref fo, .ref ce, .ref le, .int (nI cn), .int (nI kn)]), (g, zO 2 [.ref av, .ref an, .int (nI n), .int st]), (an, zI G 12 (fun j => nI (Nb j))), (ce, zI G 4096 (fun j => nI (Lc j))), (le, zI G 4096 (fun j => mI (Le j)))]) (k2_QcV (.int (mI (cfC Nb Lc Le n wd a o)))) 0 0 (fun _ => False) := by
  refine z_metRi (by decide) (Nat.le_of_ble_eq_true rfl) (fun p e s m args below meth c ls Q Sf r hl hret => ?_)
  have Sf : CallFix p m c cSe_cellsFrom 6 s args zT RSe := Sf
  have hx := Sf.1
  have hb := Sf.2.1
  have hown := Sf.2.2.2.1
  have hts := Sf.2.2.2.2
  have hl : lv_has ls 6 [(0, .ref s0), (1, .int (nI a)), (2, .int (nI o)), (3, .int (mI wd))] := hl
  have h2n : 1 ≤ 2 ^ n := Nat.one_le_two_pow
  have h2m : 2 ^ n ≤ 4096 := Nat.pow_le_pow_right (by decide) hn
  have hz := or_lt2 ho (pw_lt2 ha)
  have hbg : bagF Nb n a o < 4096 := bagF_lt hN (by omega)
  have hpp := popc_le _ hbg
  refine lv_aload_n hx hb dSe_cellsFrom_0 rfl (lv_at hl 0 rfl) ?_
  refine gf_Se_21 Sf r 0 rfl rfl dSe_cellsFrom_1 ?_
  refine lv_iload_n hx hb dSe_cellsFrom_4 rfl (lv_at hl 1 rfl) ?_
  refine lv_iload_n hx hb dSe_cellsFrom_5 rfl (lv_at hl 2 rfl) ?_
  refine z_rV (As := [.int (nI a), .int (nI o)]) (rest := []) Sf (c_Graph_bagOf l G g av an n st Nb a o (by first | assumption | omega) (by first | assumption | omega) (by first | assumption | omega)) mv_Se_59 ⟨rfl, rfl⟩ ⟨Nat.le_of_ble_eq_true rfl, Nat.le_of_ble_eq_true rfl⟩ r [1, 2] rfl 1 rfl rfl rfl rfl hl.1 rfl (Nat.le_of_ble_eq_true rfl) dSe_cellsFrom_6 ⟨Nat.le_of_ble_eq_true rfl, Nat.le_of_ble_eq_true rfl⟩ ?_
  refine lv_istore (lv' := [(4, .int (nI (bagF Nb n a o))), (0, .ref s0), (1, .int (nI a)), (2, .int (nI o)), (3, .int (mI wd))]) hx hb dSe_cellsFrom_9 hl (by decide) rfl (fun ls hl => ?_)
  refine lv_iload hx hb dSe_cellsFrom_11 (lv_at hl 0 rfl) ?_
  refine z_rS (As := [.int (nI (bagF Nb n a o))]) (rest := []) Sf (c_bitCount l G (bagF Nb n a o) (by first | assumption | omega)) mv_Se_63 ⟨rfl, rfl⟩ ⟨Nat.le_of_ble_eq_true rfl, Nat.le_of_ble_eq_true rfl⟩ r [] rfl rfl hl.1 rfl (Nat.le_of_ble_eq_true rfl) dSe_cellsFrom_13 ⟨Nat.le_of_ble_eq_true rfl, Nat.le_of_ble_eq_true rfl⟩ ?_
  refine lv_iconst (v := (nI 1)) hx hb dSe_cellsFrom_16 (by decide) ?_
  refine z_subM hx hb dSe_cellsFrom_17 ?_
  refine lv_iload_n hx hb dSe_cellsFrom_18 rfl (lv_at hl 4 rfl) ?_
  refine z_icmpleMM (tgt := 26) hx hb (by omega) (by omega) dSe_cellsFrom_19 (by decide) (fun c19 => ?_) (fun c19 => ?_)
  · skip
    refine lv_iconst (v := (nI 0)) hx hb dSe_cellsFrom_26 (by decide) ?_
    refine lv_istore (lv' := [(5, .int (nI 0)), (4, .int (nI (bagF Nb n a o))), (0, .ref s0), (1, .int (nI a)), (2, .int (nI o)), (3, .int (mI wd))]) hx hb dSe_cellsFrom_27 hl (by decide) rfl (fun ls hl => ?_)
    refine lv_iload hx hb dSe_cellsFrom_29 (lv_at hl 0 rfl) ?_
    refine z_ifeqN (tgt := 39) hx hb (by decide) dSe_cellsFrom_31 (by decide) (fun _ => ?_) (fun q => absurd q (by decide))
    refine lv_aload_n hx hb dSe_cellsFrom_39 rfl (lv_at hl 2 rfl) ?_
    refine gf_Se_15 Sf r 0 rfl rfl dSe_cellsFrom_40 ?_
    refine lv_iload hx hb dSe_cellsFrom_43 (lv_at hl 1 rfl) ?_
    refine z_iald hx hb r 3 (k := (bagF Nb n a o)) rfl (by omega) (by omega) dSe_cellsFrom_45 ?_
    refine lv_aload_n hx hb dSe_cellsFrom_46 rfl (lv_at hl 2 rfl) ?_
    refine gf_Se_18 Sf r 0 rfl rfl dSe_cellsFrom_47 ?_
    refine lv_iload_n hx hb dSe_cellsFrom_50 rfl (lv_at hl 4 rfl) ?_
    refine lv_iconst (v := (nI 1)) hx hb dSe_cellsFrom_51 (by decide) ?_
    refine lv_iload_n hx hb dSe_cellsFrom_52 rfl (lv_at hl 3 rfl) ?_
    refine z_shl1 hx hb (by omega) dSe_cellsFrom_53 ?_
    refine z_orN hx hb dSe_cellsFrom_54 ?_
    refine z_iald hx hb r 4 (k := (o ||| (2 ^ a))) rfl (by omega) (by omega) dSe_cellsFrom_55 ?_
    refine z_addNM hx hb dSe_cellsFrom_56 ?_
    exact hret _ _ _ dSe_cellsFrom_57 (by rw [cfC_n (by omega)])
  · skip
    refine lv_iconst (v := (nI 1)) hx hb dSe_cellsFrom_22 (by decide) ?_
    refine lv_goto (tgt := 27) hx hb dSe_cellsFrom_23 (by decide) ?_
    refine lv_istore (lv' := [(5, .int (nI 1)), (4, .int (nI (bagF Nb n a o))), (0, .ref s0), (1, .int (nI a)), (2, .int (nI o)), (3, .int (mI wd))]) hx hb dSe_cellsFrom_27 hl (by decide) rfl (fun ls hl => ?_)
    refine lv_iload hx hb dSe_cellsFrom_29 (lv_at hl 0 rfl) ?_
    refine z_ifeqN (tgt := 39) hx hb (by decide) dSe_cellsFrom_31 (by decide) (fun q => absurd q (by decide)) (fun _ => ?_)
    refine lv_ldc (v := nI 268435456) hx hb hown (hts _ kc_Se_76) dSe_cellsFrom_34 ?_
    refine lv_goto (tgt := 57) hx hb dSe_cellsFrom_36 (by decide) ?_
    exact hret _ _ _ dSe_cellsFrom_57 (by rw [cfC_w (by omega)]; exact (mI_s _).symm)

def rm_Search_countLeastCells : Room := { frames := 4, cells := 0, slots := 0, locals := 127 }
set_option maxHeartbeats 4000000 in
set_option maxRecDepth 100000 in
theorem c_Search_countLeastCells (l : Launch) (G : zG) (s0 fo ce le : Nat) (g av an : Nat) (n : Nat) (st : Int32) (kn cn : Nat) (Nb Lc Le : Nat → Nat) (wd : Nat) (hn : n ≤ 12) (hN : ∀ i, Nb i < 4096) (hLe : ∀ i, Le i ≤ 268435457) (hLc : ∀ i, Lc i ≤ 16777216) (hwd : wd ≤ 268435457) (hbn : ∀ a o, a < n → o < 2 ^ n → bagF Nb n a o < 2 ^ n) (sz : Nat) : Met l ySe_countLeastCells (.code ySe_countLeastCells cSe_countLeastCells 7 none :: zT) rm_Search_countLeastCells (zPw G [.ref s0, .int (mI wd)] [(s0, zO 3 [.ref g, .ref fo, .ref ce, .ref le, .int (nI cn), .int (nI kn)]), (g, zO 2 [.ref av, .ref an, .int (nI n), .int st]), (an, zI G 12 (fun j => nI (Nb j))), (ce, zI G 4096 (fun j => nI (Lc j))), (le, zI G 4096 (fun j => mI (Le j)))] sz) (zQ (S := Unit) G (fun u => none) (fun u => [(s0, zO 3 [.ref g, .ref fo, .ref ce, .ref le, .int (nI cn), .int (nI kn)]), (g, zO 2 [.ref av, .ref an, .int (nI n), .int st]), (an, zI G 12 (fun j => nI (Nb j))), (ce, zI G 4096 (fun j => nI (Lc j))), (le, zI G 4096 (fun j => mI ((ccR Nb Lc Le n wd (2 ^ n - 1)) j)))]) (va_A [(s0, zO 3 [.ref g, .ref fo, .ref ce, .ref le, .int (nI cn), .int (nI kn)]), (g, zO 2 [.ref av, .ref an, .int (nI n), .int st]), (an, zI G 12 (fun j => nI (Nb j))), (ce, zI G 4096 (fun j => nI (Lc j))), (le, zI G 4096 (fun j => mI (Le j)))] sz) (fun u => True)) 0 0 (va_A [(s0, zO 3 [.ref g, .ref fo, .ref ce, .ref le, .int (nI cn), .int (nI kn)]), (g, zO 2 [.ref av, .ref an, .int (nI n), .int st]), (an, zI G 12 (fun j => nI (Nb j))), (ce, zI G 4096 (fun j => nI (Lc j))), (le, zI G 4096 (fun j => mI (Le j)))] sz) := by
  refine z_metWv (by decide) (Nat.le_of_ble_eq_true rfl) (fun p e s m args below meth c ls A Q Sf hnm w hl hret => ?_)
  obtain ⟨H, hH⟩ : ∃ H, H = s.heap := ⟨_, rfl⟩
  obtain ⟨locs, hlo⟩ : ∃ L : List Loc, L = [] := ⟨_, rfl⟩
  rw [← hH, ← hlo] at w
  rw [← hH, ← hlo]
  clear hH hlo
  have Sf : CallFix p m c cSe_countLeastCells 7 s args zT RSe := Sf
  have hx := Sf.1
  have hb := Sf.2.1
  have hown := Sf.2.2.2.1
  have hts := Sf.2.2.2.2
  have hl : lv_has ls 7 [(0, .ref s0), (1, .int (mI wd))] := hl
  have h2n : 1 ≤ 2 ^ n := Nat.one_le_two_pow
  have h2m : 2 ^ n ≤ 4096 := Nat.pow_le_pow_right (by decide) hn
  refine lv_aload_n hx hb dSe_countLeastCells_0 rfl (lv_at hl 0 rfl) ?_
  refine gf_Se_21 Sf w.1 0 rfl rfl dSe_countLeastCells_1 ?_
  refine z_rV (As := []) (rest := []) Sf (c_Graph_everyName l G g av an n st (by first | assumption | omega)) mv_Se_43 ⟨rfl, rfl⟩ ⟨Nat.le_of_ble_eq_true rfl, Nat.le_of_ble_eq_true rfl⟩ w.1 [1] rfl 1 rfl rfl rfl rfl hl.1 rfl (Nat.le_of_ble_eq_true rfl) dSe_countLeastCells_4 ⟨Nat.le_of_ble_eq_true rfl, Nat.le_of_ble_eq_true rfl⟩ ?_
  refine lv_istore_n (lv' := [(2, .int (nI (2 ^ n - 1))), (0, .ref s0), (1, .int (mI wd))]) hx hb dSe_countLeastCells_7 rfl hl (by decide) rfl (fun ls hl => ?_)
  refine lv_aload_n hx hb dSe_countLeastCells_8 rfl (lv_at hl 1 rfl) ?_
  refine gf_Se_18 Sf w.1 0 rfl rfl dSe_countLeastCells_9 ?_
  refine lv_iload_n hx hb dSe_countLeastCells_12 rfl (lv_at hl 0 rfl) ?_
  refine lv_iconst (v := (nI 0)) hx hb dSe_countLeastCells_13 (by decide) ?_
  rw [← mI_s 0]
  refine z_iastM hx hb w 4 (k := (2 ^ n - 1)) rfl (by omega) (by omega) (ws' := [(s0, zO 3 [.ref g, .ref fo, .ref ce, .ref le, .int (nI cn), .int (nI kn)]), (g, zO 2 [.ref av, .ref an, .int (nI n), .int st]), (an, zI G 12 (fun j => nI (Nb j))), (ce, zI G 4096 (fun j => nI (Lc j))), (le, zI G 4096 (fun j => mI ((va_up Le (2 ^ n - 1) 1) j)))]) rfl dSe_countLeastCells_14 (fun H locs w => ?_)
  refine lv_iload_n hx hb dSe_countLeastCells_15 rfl (lv_at hl 0 rfl) ?_
  refine lv_iconst (v := (nI 1)) hx hb dSe_countLeastCells_16 (by decide) ?_
  refine z_subM hx hb dSe_countLeastCells_17 ?_
  refine lv_istore_n (lv' := [(3, .int (mI (2 ^ n - 1))), (2, .int (nI (2 ^ n - 1))), (0, .ref s0), (1, .int (mI wd))]) hx hb dSe_countLeastCells_18 rfl hl (by decide) rfl (fun ls hl => ?_)
  have L19 : ∀ (fu19 : Nat) (t : Nat) (F1 : Nat → Nat), (t ≤ 2 ^ n - 1) → (F1 = ccR Nb Lc Le n wd (2 ^ n - 1 - t)) → (t) < fu19 → ∀ (H : Heap) (locs : List Loc), zw G A s [(s0, zO 3 [.ref g, .ref fo, .ref ce, .ref le, .int (nI cn), .int (nI kn)]), (g, zO 2 [.ref av, .ref an, .int (nI n), .int st]), (an, zI G 12 (fun j => nI (Nb j))), (ce, zI G 4096 (fun j => nI (Lc j))), (le, zI G 4096 (fun j => mI (F1 j)))] H locs → ∀ (ls : Array Slot), lv_has ls 7 [(3, .int (mI t)), (2, .int (nI (2 ^ n - 1))), (0, .ref s0), (1, .int (mI wd))] → W p l e rm_Search_countLeastCells s m args below meth c H locs 0 0 Q (F0 m 19 ls []) := by
    intro fu19
    induction fu19 with
    | zero =>
      intro t F1 ht hF1 hm19
      exact absurd hm19 (Nat.not_lt_zero _)
    | succ fu19 ih19 =>
      intro t F1 ht hF1 hm19 H locs w ls hl
      refine lv_iload_n hx hb dSe_countLeastCells_19 rfl (lv_at hl 0 rfl) ?_
      refine z_ifltM (tgt := 103) hx hb (by omega) dSe_countLeastCells_20 (by decide) (fun c20 => ?_) (fun c20 => ?_)
      · skip
        exact hret _ _ _ _ () _ w (by rw [hF1, c20, Nat.sub_zero]) (trivial) dSe_countLeastCells_103 rfl
      · skip
        obtain ⟨t2, rfl⟩ : ∃ t2, t = t2 + 1 := ⟨t - 1, by omega⟩
        have hl : lv_has ls 7 [(3, .int (nI t2)), (2, .int (nI (2 ^ n - 1))), (0, .ref s0), (1, .int (mI wd))] := by simpa only [mI_s] using hl
        refine lv_ldc (v := nI 268435456) hx hb hown (hts _ kc_Se_76) dSe_countLeastCells_23 ?_
        refine lv_istore (lv' := [(4, .int (nI 268435456)), (3, .int (nI t2)), (2, .int (nI (2 ^ n - 1))), (0, .ref s0), (1, .int (mI wd))]) hx hb dSe_countLeastCells_25 hl (by decide) rfl (fun ls hl => ?_)
        refine lv_iconst (v := (nI 0)) hx hb dSe_countLeastCells_27 (by decide) ?_
        refine lv_istore (lv' := [(5, .int (nI 0)), (4, .int (nI 268435456)), (3, .int (nI t2)), (2, .int (nI (2 ^ n - 1))), (0, .ref s0), (1, .int (mI wd))]) hx hb dSe_countLeastCells_28 hl (by decide) rfl (fun ls hl => ?_)
        have L30 : ∀ (fu30 : Nat) (a b : Nat), (a ≤ n) → (b = ccC Nb Lc F1 n wd t2 a) → (n - a) < fu30 → ∀ (H : Heap) (locs : List Loc), zw G A s [(s0, zO 3 [.ref g, .ref fo, .ref ce, .ref le, .int (nI cn), .int (nI kn)]), (g, zO 2 [.ref av, .ref an, .int (nI n), .int st]), (an, zI G 12 (fun j => nI (Nb j))), (ce, zI G 4096 (fun j => nI (Lc j))), (le, zI G 4096 (fun j => mI (F1 j)))] H locs → ∀ (ls : Array Slot), lv_has ls 7 [(5, .int (nI a)), (4, .int (mI b)), (3, .int (nI t2)), (2, .int (nI (2 ^ n - 1))), (0, .ref s0), (1, .int (mI wd))] → W p l e rm_Search_countLeastCells s m args below meth c H locs 0 0 Q (F0 m 30 ls []) := by
          intro fu30
          induction fu30 with
          | zero =>
            intro a b ha hb1 hm30
            exact absurd hm30 (Nat.not_lt_zero _)
          | succ fu30 ih30 =>
            intro a b ha hb1 hm30 H locs w ls hl
            have hFle : ∀ i, F1 i ≤ 268435457 := fun i => by rw [hF1]; exact ccR_le hLe _ i
            have hb2 : b ≤ 268435457 := by rw [hb1]; exact ccC_le a
            refine lv_iload hx hb dSe_countLeastCells_30 (lv_at hl 0 rfl) ?_
            refine lv_aload_n hx hb dSe_countLeastCells_32 rfl (lv_at hl 4 rfl) ?_
            refine gf_Se_21 Sf w.1 0 rfl rfl dSe_countLeastCells_33 ?_
            refine gf_Se_56 Sf w.1 1 rfl rfl dSe_countLeastCells_36 ?_
            refine z_icmpge (tgt := 89) hx hb (by omega) (by omega) dSe_countLeastCells_39 (by decide) (fun c39 => ?_) (fun c39 => ?_)
            · skip
              refine lv_aload_n hx hb dSe_countLeastCells_89 rfl (lv_at hl 4 rfl) ?_
              refine gf_Se_18 Sf w.1 0 rfl rfl dSe_countLeastCells_90 ?_
              refine lv_iload_n hx hb dSe_countLeastCells_93 rfl (lv_at hl 2 rfl) ?_
              refine lv_iload hx hb dSe_countLeastCells_94 (lv_at hl 1 rfl) ?_
              refine z_iastM hx hb w 4 (k := t2) rfl (by omega) (by omega) (ws' := [(s0, zO 3 [.ref g, .ref fo, .ref ce, .ref le, .int (nI cn), .int (nI kn)]), (g, zO 2 [.ref av, .ref an, .int (nI n), .int st]), (an, zI G 12 (fun j => nI (Nb j))), (ce, zI G 4096 (fun j => nI (Lc j))), (le, zI G 4096 (fun j => mI ((va_up F1 t2 b) j)))]) rfl dSe_countLeastCells_96 (fun H locs w => ?_)
              refine lv_iinc (v := (mI t2)) (lv' := [(3, .int (mI t2)), (5, .int (nI a)), (4, .int (mI b)), (2, .int (nI (2 ^ n - 1))), (0, .ref s0), (1, .int (mI wd))]) hx hb dSe_countLeastCells_97 hl (k := 2) rfl (mI_dec t2) (by decide) rfl (fun ls hl => ?_)
              refine lv_goto (tgt := 19) hx hb dSe_countLeastCells_100 (by decide) ?_
              refine ih19 t2 (va_up F1 t2 b) ?_ ?_ ?_ _ _ w ls (lv_sub hl [0, 3, 4, 5] rfl)
              · omega
              · rw [hb1, show a = n by omega, show 2 ^ n - 1 - t2 = (2 ^ n - 1 - (t2 + 1)) + 1 by omega]; simp only [ccR]; rw [← hF1, show 2 ^ n - 1 - 1 - (2 ^ n - 1 - (t2 + 1)) = t2 by omega]
              · omega
            · skip
              have hz := or_lt2 (show t2 < 2 ^ n by omega) (pw_lt2 (show a < n by omega))
              have hr2 := hFle (t2 ||| 2 ^ a)
              have hcl := cfC_le (Nb := Nb) (n := n) (wd := wd) (a := a) (o := t2) hLc hr2
              refine lv_iload_n hx hb dSe_countLeastCells_42 rfl (lv_at hl 2 rfl) ?_
              refine lv_iconst (v := (nI 1)) hx hb dSe_countLeastCells_43 (by decide) ?_
              refine lv_iload hx hb dSe_countLeastCells_44 (lv_at hl 0 rfl) ?_
              refine z_shl1 hx hb (by omega) dSe_countLeastCells_46 ?_
              refine z_orN hx hb dSe_countLeastCells_47 ?_
              refine lv_istore (lv' := [(6, .int (nI (t2 ||| (2 ^ a)))), (5, .int (nI a)), (4, .int (mI b)), (3, .int (nI t2)), (2, .int (nI (2 ^ n - 1))), (0, .ref s0), (1, .int (mI wd))]) hx hb dSe_countLeastCells_48 hl (by decide) rfl (fun ls hl => ?_)
              refine lv_iload hx hb dSe_countLeastCells_50 (lv_at hl 0 rfl) ?_
              refine lv_iload_n hx hb dSe_countLeastCells_52 rfl (lv_at hl 3 rfl) ?_
              refine z_icmpeq (tgt := 83) hx hb (by omega) (by omega) dSe_countLeastCells_53 (by decide) (fun c53 => ?_) (fun c53 => ?_)
              · skip
                refine z_iinc (d := 1) (lv' := [(5, .int (nI (a + 1))), (6, .int (nI (t2 ||| (2 ^ a)))), (4, .int (mI b)), (3, .int (nI t2)), (2, .int (nI (2 ^ n - 1))), (0, .ref s0), (1, .int (mI wd))]) hx hb dSe_countLeastCells_83 hl (k := 1) rfl (by decide) (by decide) rfl (fun ls hl => ?_)
                refine lv_goto (tgt := 30) hx hb dSe_countLeastCells_86 (by decide) ?_
                refine ih30 (a + 1) _ ?_ ?_ ?_ _ _ w ls (lv_sub hl [0, 2, 3, 4, 5, 6] rfl)
                · omega
                · first | (rw [ccC_o (orb c53), hb1]; done) | (rw [ccC_i (orbn c53), ← hb1]; done) | (rw [ccC_i (orbn c53), ← hb1]; have := cfC_ge (Nb := Nb) (Lc := Lc) (n := n) (wd := wd) (show b ≤ F1 (t2 ||| 2 ^ a) by omega) hb2; omega)
                · omega
              · skip
                refine lv_aload_n hx hb dSe_countLeastCells_56 rfl (lv_at hl 5 rfl) ?_
                refine gf_Se_18 Sf w.1 0 rfl rfl dSe_countLeastCells_57 ?_
                refine lv_iload hx hb dSe_countLeastCells_60 (lv_at hl 0 rfl) ?_
                refine z_iald hx hb w.1 4 (k := (t2 ||| (2 ^ a))) rfl (by omega) (by omega) dSe_countLeastCells_62 ?_
                refine lv_iload hx hb dSe_countLeastCells_63 (lv_at hl 2 rfl) ?_
                refine z_icmpgeMM (tgt := 83) hx hb (by omega) (by omega) dSe_countLeastCells_65 (by decide) (fun c65 => ?_) (fun c65 => ?_)
                · skip
                  refine z_iinc (d := 1) (lv' := [(5, .int (nI (a + 1))), (6, .int (nI (t2 ||| (2 ^ a)))), (4, .int (mI b)), (3, .int (nI t2)), (2, .int (nI (2 ^ n - 1))), (0, .ref s0), (1, .int (mI wd))]) hx hb dSe_countLeastCells_83 hl (k := 1) rfl (by decide) (by decide) rfl (fun ls hl => ?_)
                  refine lv_goto (tgt := 30) hx hb dSe_countLeastCells_86 (by decide) ?_
                  refine ih30 (a + 1) _ ?_ ?_ ?_ _ _ w ls (lv_sub hl [0, 2, 3, 4, 5, 6] rfl)
                  · omega
                  · first | (rw [ccC_o (orb c53), hb1]; done) | (rw [ccC_i (orbn c53), ← hb1]; done) | (rw [ccC_i (orbn c53), ← hb1]; have := cfC_ge (Nb := Nb) (Lc := Lc) (n := n) (wd := wd) (show b ≤ F1 (t2 ||| 2 ^ a) by omega) hb2; omega)
                  · omega
                · skip
                  refine lv_iload hx hb dSe_countLeastCells_68 (lv_at hl 2 rfl) ?_
                  refine lv_aload_n hx hb dSe_countLeastCells_70 rfl (lv_at hl 5 rfl) ?_
                  refine lv_iload hx hb dSe_countLeastCells_71 (lv_at hl 1 rfl) ?_
                  refine lv_iload_n hx hb dSe_countLeastCells_73 rfl (lv_at hl 3 rfl) ?_
                  refine lv_iload_n hx hb dSe_countLeastCells_74 rfl (lv_at hl 6 rfl) ?_
                  refine z_rV (As := [.int (nI a), .int (nI t2), .int (mI wd)]) (rest := [.int (mI b)]) Sf (c_Search_cellsFrom l G s0 fo ce le g av an n st kn cn Nb Lc F1 a t2 wd (by first | assumption | omega) (by first | assumption | omega) hFle (by first | assumption | omega) (by first | assumption | omega) (by first | assumption | omega) (by first | assumption | omega) (hbn a t2 (by omega) (by omega))) mv_Se_77 ⟨rfl, rfl⟩ ⟨Nat.le_of_ble_eq_true rfl, Nat.le_of_ble_eq_true rfl⟩ w.1 [0, 1, 2, 3, 4] rfl 0 rfl rfl rfl rfl hl.1 rfl (Nat.le_of_ble_eq_true rfl) dSe_countLeastCells_75 ⟨Nat.le_of_ble_eq_true rfl, Nat.le_of_ble_eq_true rfl⟩ ?_
                  refine z_mminZ Sf mv_Se_73 hl.1 ⟨Nat.le_of_ble_eq_true rfl, Nat.le_of_ble_eq_true rfl⟩ (Nat.le_of_ble_eq_true rfl) ⟨Nat.le_of_ble_eq_true rfl, Nat.le_of_ble_eq_true rfl⟩ dSe_countLeastCells_78 ?_
                  rw [mnM (by omega) (by omega)]
                  refine lv_istore (lv' := [(4, .int (mI (min b (cfC Nb Lc F1 n wd a t2)))), (6, .int (nI (t2 ||| (2 ^ a)))), (5, .int (nI a)), (3, .int (nI t2)), (2, .int (nI (2 ^ n - 1))), (0, .ref s0), (1, .int (mI wd))]) hx hb dSe_countLeastCells_81 hl (by decide) rfl (fun ls hl => ?_)
                  refine z_iinc (d := 1) (lv' := [(5, .int (nI (a + 1))), (4, .int (mI (min b (cfC Nb Lc F1 n wd a t2)))), (6, .int (nI (t2 ||| (2 ^ a)))), (3, .int (nI t2)), (2, .int (nI (2 ^ n - 1))), (0, .ref s0), (1, .int (mI wd))]) hx hb dSe_countLeastCells_83 hl (k := 2) rfl (by decide) (by decide) rfl (fun ls hl => ?_)
                  refine lv_goto (tgt := 30) hx hb dSe_countLeastCells_86 (by decide) ?_
                  refine ih30 (a + 1) (min b (cfC Nb Lc F1 n wd a t2)) ?_ ?_ ?_ _ _ w ls (lv_sub hl [0, 1, 3, 4, 5, 6] rfl)
                  · omega
                  · first | (rw [ccC_o (orb c53), hb1]; done) | (rw [ccC_i (orbn c53), ← hb1]; done) | (rw [ccC_i (orbn c53), ← hb1]; have := cfC_ge (Nb := Nb) (Lc := Lc) (n := n) (wd := wd) (show b ≤ F1 (t2 ||| 2 ^ a) by omega) hb2; omega)
                  · omega
        have hl : lv_has ls 7 [(5, .int (nI 0)), (4, .int (mI (268435456 + 1))), (3, .int (nI t2)), (2, .int (nI (2 ^ n - 1))), (0, .ref s0), (1, .int (mI wd))] := by simpa only [mI_s] using hl
        refine L30 ((n - 0) + 1) 0 (268435456 + 1) ?_ ?_ ?_ _ _ w ls (lv_sub hl [0, 1, 2, 3, 4, 5] rfl)
        · omega
        · rfl
        · exact Nat.lt_succ_self _
  refine L19 (((2 ^ n - 1)) + 1) (2 ^ n - 1) (va_up Le (2 ^ n - 1) 1) ?_ ?_ ?_ _ _ w ls (lv_sub hl [0, 1, 2, 3] rfl)
  · omega
  · rw [Nat.sub_self]; rfl
  · exact Nat.lt_succ_self _

def rm_Search_follow : Room := { frames := 4, cells := 0, slots := 0, locals := 127 }
set_option maxHeartbeats 4000000 in
set_option maxRecDepth 100000 in
theorem c_Search_follow (l : Launch) (G : zG) (s0 fo ce le : Nat) (g av an : Nat) (n : Nat) (st : Int32) (kn cn : Nat) (Nb Lc Le Fo : Nat → Nat) (wd : Nat) (hn : n ≤ 12) (hN : ∀ i, Nb i < 4096) (hLe : ∀ i, Le i ≤ 268435457) (hLc : ∀ i, Lc i ≤ 16777216) (hwd : wd ≤ 268435457) (hbn : ∀ a o, a < n → o < 2 ^ n → bagF Nb n a o < 2 ^ n) (sz : Nat) : Met l ySe_follow (.code ySe_follow cSe_follow 6 none :: zT) rm_Search_follow (zPw G [.ref s0, .int (mI wd)] [(s0, zO 3 [.ref g, .ref fo, .ref ce, .ref le, .int (nI cn), .int (nI kn)]), (g, zO 2 [.ref av, .ref an, .int (nI n), .int st]), (an, zI G 12 (fun j => nI (Nb j))), (ce, zI G 4096 (fun j => nI (Lc j))), (le, zI G 4096 (fun j => mI (Le j))), (fo, zI G 12 (fun j => nI (Fo j)))] sz) (zQ (S := Unit) G (fun u => none) (fun u => [(s0, zO 3 [.ref g, .ref fo, .ref ce, .ref le, .int (nI cn), .int (nI kn)]), (g, zO 2 [.ref av, .ref an, .int (nI n), .int st]), (an, zI G 12 (fun j => nI (Nb j))), (ce, zI G 4096 (fun j => nI (Lc j))), (le, zI G 4096 (fun j => mI (Le j))), (fo, zI G 12 (fun j => nI (((fwC Nb Lc Le Fo n wd n).2) j)))]) (va_A [(s0, zO 3 [.ref g, .ref fo, .ref ce, .ref le, .int (nI cn), .int (nI kn)]), (g, zO 2 [.ref av, .ref an, .int (nI n), .int st]), (an, zI G 12 (fun j => nI (Nb j))), (ce, zI G 4096 (fun j => nI (Lc j))), (le, zI G 4096 (fun j => mI (Le j))), (fo, zI G 12 (fun j => nI (Fo j)))] sz) (fun u => True)) 0 0 (va_A [(s0, zO 3 [.ref g, .ref fo, .ref ce, .ref le, .int (nI cn), .int (nI kn)]), (g, zO 2 [.ref av, .ref an, .int (nI n), .int st]), (an, zI G 12 (fun j => nI (Nb j))), (ce, zI G 4096 (fun j => nI (Lc j))), (le, zI G 4096 (fun j => mI (Le j))), (fo, zI G 12 (fun j => nI (Fo j)))] sz) := by
  refine z_metWv (by decide) (Nat.le_of_ble_eq_true rfl) (fun p e s m args below meth c ls A Q Sf hnm w hl hret => ?_)
  obtain ⟨H, hH⟩ : ∃ H, H = s.heap := ⟨_, rfl⟩
  obtain ⟨locs, hlo⟩ : ∃ L : List Loc, L = [] := ⟨_, rfl⟩
  rw [← hH, ← hlo] at w
  rw [← hH, ← hlo]
  clear hH hlo
  have Sf : CallFix p m c cSe_follow 6 s args zT RSe := Sf
  have hx := Sf.1
  have hb := Sf.2.1
  have hown := Sf.2.2.2.1
  have hts := Sf.2.2.2.2
  have hl : lv_has ls 6 [(0, .ref s0), (1, .int (mI wd))] := hl
  have h2n : 1 ≤ 2 ^ n := Nat.one_le_two_pow
  have h2m : 2 ^ n ≤ 4096 := Nat.pow_le_pow_right (by decide) hn
  refine lv_iconst (v := (nI 0)) hx hb dSe_follow_0 (by decide) ?_
  refine lv_istore_n (lv' := [(2, .int (nI 0)), (0, .ref s0), (1, .int (mI wd))]) hx hb dSe_follow_1 rfl hl (by decide) rfl (fun ls hl => ?_)
  refine lv_iconst (v := (nI 0)) hx hb dSe_follow_2 (by decide) ?_
  refine lv_istore_n (lv' := [(3, .int (nI 0)), (2, .int (nI 0)), (0, .ref s0), (1, .int (mI wd))]) hx hb dSe_follow_3 rfl hl (by decide) rfl (fun ls hl => ?_)
  have L4 : ∀ (fu4 : Nat) (o i : Nat) (F : Nat → Nat), (i ≤ n) → (o = (fwC Nb Lc Le Fo n wd i).1) → (F = (fwC Nb Lc Le Fo n wd i).2) → (o < 2 ^ n) → (n - i) < fu4 → ∀ (H : Heap) (locs : List Loc), zw G A s [(s0, zO 3 [.ref g, .ref fo, .ref ce, .ref le, .int (nI cn), .int (nI kn)]), (g, zO 2 [.ref av, .ref an, .int (nI n), .int st]), (an, zI G 12 (fun j => nI (Nb j))), (ce, zI G 4096 (fun j => nI (Lc j))), (le, zI G 4096 (fun j => mI (Le j))), (fo, zI G 12 (fun j => nI (F j)))] H locs → ∀ (ls : Array Slot), lv_has ls 6 [(3, .int (nI i)), (2, .int (nI o)), (0, .ref s0), (1, .int (mI wd))] → W p l e rm_Search_follow s m args below meth c H locs 0 0 Q (F0 m 4 ls []) := by
    intro fu4
    induction fu4 with
    | zero =>
      intro o i F hi ho hF ho2 hm4
      exact absurd hm4 (Nat.not_lt_zero _)
    | succ fu4 ih4 =>
      intro o i F hi ho hF ho2 hm4 H locs w ls hl
      refine lv_iload_n hx hb dSe_follow_4 rfl (lv_at hl 0 rfl) ?_
      refine lv_aload_n hx hb dSe_follow_5 rfl (lv_at hl 2 rfl) ?_
      refine gf_Se_21 Sf w.1 0 rfl rfl dSe_follow_6 ?_
      refine gf_Se_56 Sf w.1 1 rfl rfl dSe_follow_9 ?_
      refine z_icmpge (tgt := 98) hx hb (by omega) (by omega) dSe_follow_12 (by decide) (fun c12 => ?_) (fun c12 => ?_)
      · skip
        exact hret _ _ _ _ () _ w (by rw [hF, show i = n by omega]) (trivial) dSe_follow_98 rfl
      · skip
        refine lv_iconst (v := (nI 0)) hx hb dSe_follow_15 (by decide) ?_
        refine lv_istore (lv' := [(4, .int (nI 0)), (3, .int (nI i)), (2, .int (nI o)), (0, .ref s0), (1, .int (mI wd))]) hx hb dSe_follow_16 hl (by decide) rfl (fun ls hl => ?_)
        have L18 : ∀ (fu18 : Nat) (a : Nat), (a ≤ n) → (fn5 (cdC Nb Lc Le n wd o) n 0 = fn5 (cdC Nb Lc Le n wd o) (n - a) a) → (n - a) < fu18 → ∀ (H : Heap) (locs : List Loc), zw G A s [(s0, zO 3 [.ref g, .ref fo, .ref ce, .ref le, .int (nI cn), .int (nI kn)]), (g, zO 2 [.ref av, .ref an, .int (nI n), .int st]), (an, zI G 12 (fun j => nI (Nb j))), (ce, zI G 4096 (fun j => nI (Lc j))), (le, zI G 4096 (fun j => mI (Le j))), (fo, zI G 12 (fun j => nI (F j)))] H locs → ∀ (ls : Array Slot), lv_has ls 6 [(4, .int (nI a)), (3, .int (nI i)), (2, .int (nI o)), (0, .ref s0), (1, .int (mI wd))] → W p l e rm_Search_follow s m args below meth c H locs 0 0 Q (F0 m 18 ls []) := by
          intro fu18
          induction fu18 with
          | zero =>
            intro a ha hfa hm18
            exact absurd hm18 (Nat.not_lt_zero _)
          | succ fu18 ih18 =>
            intro a ha hfa hm18 H locs w ls hl
            refine lv_iload hx hb dSe_follow_18 (lv_at hl 0 rfl) ?_
            refine lv_aload_n hx hb dSe_follow_20 rfl (lv_at hl 3 rfl) ?_
            refine gf_Se_21 Sf w.1 0 rfl rfl dSe_follow_21 ?_
            refine gf_Se_56 Sf w.1 1 rfl rfl dSe_follow_24 ?_
            refine z_icmpge (tgt := 92) hx hb (by omega) (by omega) dSe_follow_27 (by decide) (fun c27 => ?_) (fun c27 => ?_)
            · skip
              have hfn : fn5 (cdC Nb Lc Le n wd o) n 0 = n := by rw [hfa, show n - a = 0 by omega]; exact (show a = n by omega)
              refine z_iinc (d := 1) (lv' := [(3, .int (nI (i + 1))), (4, .int (nI a)), (2, .int (nI o)), (0, .ref s0), (1, .int (mI wd))]) hx hb dSe_follow_92 hl (k := 1) rfl (by decide) (by decide) rfl (fun ls hl => ?_)
              refine lv_goto (tgt := 4) hx hb dSe_follow_95 (by decide) ?_
              refine ih4 _ (i + 1) F ?_ ?_ ?_ ?_ ?_ _ _ w ls (lv_sub hl [0, 2, 3, 4] rfl)
              · omega
              · first | (rw [fwC_t (by rw [← ho, hfn]; omega), ← ho, hfn]; done) | (rw [fwC_f (by rw [← ho, hfn]; omega), ← ho])
              · first | (rw [fwC_t (by rw [← ho, hfn]; omega), ← ho, hfn, ← hF]; done) | (rw [fwC_f (by rw [← ho, hfn]; omega), ← hF])
              · first | exact or_lt2 ho2 (pw_lt2 (by omega)) | exact ho2
              · omega
            · skip
              refine lv_iload_n hx hb dSe_follow_30 rfl (lv_at hl 2 rfl) ?_
              refine lv_iconst (v := (nI 1)) hx hb dSe_follow_31 (by decide) ?_
              refine lv_iload hx hb dSe_follow_32 (lv_at hl 0 rfl) ?_
              refine z_shl1 hx hb (by omega) dSe_follow_34 ?_
              refine z_andN hx hb dSe_follow_35 ?_
              refine z_ifnebit (tgt := 43) hx hb (by omega) dSe_follow_36 (by decide) (fun c36 => ?_) (fun c36 => ?_)
              · skip
                refine lv_iconst (v := (nI 0)) hx hb dSe_follow_43 (by decide) ?_
                refine lv_istore (lv' := [(5, .int (nI 0)), (4, .int (nI a)), (3, .int (nI i)), (2, .int (nI o)), (0, .ref s0), (1, .int (mI wd))]) hx hb dSe_follow_44 hl (by decide) rfl (fun ls hl => ?_)
                refine lv_iload hx hb dSe_follow_46 (lv_at hl 0 rfl) ?_
                refine z_ifeqN (tgt := 86) hx hb (by decide) dSe_follow_48 (by decide) (fun _ => ?_) (fun q => absurd q (by decide))
                refine z_iinc (d := 1) (lv' := [(4, .int (nI (a + 1))), (5, .int (nI 0)), (3, .int (nI i)), (2, .int (nI o)), (0, .ref s0), (1, .int (mI wd))]) hx hb dSe_follow_86 hl (k := 1) rfl (by decide) (by decide) rfl (fun ls hl => ?_)
                refine lv_goto (tgt := 18) hx hb dSe_follow_89 (by decide) ?_
                refine ih18 (a + 1) ?_ ?_ ?_ _ _ w ls (lv_sub hl [0, 2, 3, 4, 5] rfl)
                · omega
                · rw [hfa, show n - a = (n - (a + 1)) + 1 by omega, fn5_n (by unfold cdC; first | (rw [c36]; rfl) | (rw [c36, decide_eq_false c65]; rfl))]
                · omega
              · skip
                refine lv_iconst (v := (nI 1)) hx hb dSe_follow_39 (by decide) ?_
                refine lv_goto (tgt := 44) hx hb dSe_follow_40 (by decide) ?_
                refine lv_istore (lv' := [(5, .int (nI 1)), (4, .int (nI a)), (3, .int (nI i)), (2, .int (nI o)), (0, .ref s0), (1, .int (mI wd))]) hx hb dSe_follow_44 hl (by decide) rfl (fun ls hl => ?_)
                refine lv_iload hx hb dSe_follow_46 (lv_at hl 0 rfl) ?_
                refine z_ifeqN (tgt := 86) hx hb (by decide) dSe_follow_48 (by decide) (fun q => absurd q (by decide)) (fun _ => ?_)
                have hcl := cfC_le (Nb := Nb) (n := n) (wd := wd) (a := a) (o := o) hLc (hLe _)
                have hlo := hLe o
                refine lv_aload_n hx hb dSe_follow_51 rfl (lv_at hl 4 rfl) ?_
                refine lv_iload hx hb dSe_follow_52 (lv_at hl 1 rfl) ?_
                refine lv_iload_n hx hb dSe_follow_54 rfl (lv_at hl 3 rfl) ?_
                refine lv_iload_n hx hb dSe_follow_55 rfl (lv_at hl 5 rfl) ?_
                refine z_rV (As := [.int (nI a), .int (nI o), .int (mI wd)]) (rest := []) Sf (c_Search_cellsFrom l G s0 fo ce le g av an n st kn cn Nb Lc Le a o wd (by first | assumption | omega) (by first | assumption | omega) (by first | assumption | omega) (by first | assumption | omega) (by first | assumption | omega) ho2 (by first | assumption | omega) (hbn a o (by omega) ho2)) mv_Se_77 ⟨rfl, rfl⟩ ⟨Nat.le_of_ble_eq_true rfl, Nat.le_of_ble_eq_true rfl⟩ w.1 [0, 1, 2, 3, 4] rfl 0 rfl rfl rfl rfl hl.1 rfl (Nat.le_of_ble_eq_true rfl) dSe_follow_56 ⟨Nat.le_of_ble_eq_true rfl, Nat.le_of_ble_eq_true rfl⟩ ?_
                refine lv_aload_n hx hb dSe_follow_59 rfl (lv_at hl 4 rfl) ?_
                refine gf_Se_18 Sf w.1 0 rfl rfl dSe_follow_60 ?_
                refine lv_iload_n hx hb dSe_follow_63 rfl (lv_at hl 3 rfl) ?_
                refine z_iald hx hb w.1 4 (k := o) rfl (by omega) (by omega) dSe_follow_64 ?_
                refine z_icmpneMM (tgt := 86) hx hb (by omega) (by omega) dSe_follow_65 (by decide) (fun c65 => ?_) (fun c65 => ?_)
                · skip
                  refine z_iinc (d := 1) (lv' := [(4, .int (nI (a + 1))), (5, .int (nI 1)), (3, .int (nI i)), (2, .int (nI o)), (0, .ref s0), (1, .int (mI wd))]) hx hb dSe_follow_86 hl (k := 1) rfl (by decide) (by decide) rfl (fun ls hl => ?_)
                  refine lv_goto (tgt := 18) hx hb dSe_follow_89 (by decide) ?_
                  refine ih18 (a + 1) ?_ ?_ ?_ _ _ w ls (lv_sub hl [0, 2, 3, 4, 5] rfl)
                  · omega
                  · rw [hfa, show n - a = (n - (a + 1)) + 1 by omega, fn5_n (by unfold cdC; first | (rw [c36]; rfl) | (rw [c36, decide_eq_false c65]; rfl))]
                  · omega
                · skip
                  have hfn : fn5 (cdC Nb Lc Le n wd o) n 0 = a := by rw [hfa, show n - a = (n - (a + 1)) + 1 by omega]; exact fn5_y (by unfold cdC; rw [c36, decide_eq_true c65]; rfl)
                  refine lv_aload_n hx hb dSe_follow_68 rfl (lv_at hl 4 rfl) ?_
                  refine gf_Se_9 Sf w.1 0 rfl rfl dSe_follow_69 ?_
                  refine lv_iload_n hx hb dSe_follow_72 rfl (lv_at hl 2 rfl) ?_
                  refine lv_iload hx hb dSe_follow_73 (lv_at hl 1 rfl) ?_
                  refine z_iastN hx hb w 5 (k := i) rfl (by omega) (by omega) (ws' := [(s0, zO 3 [.ref g, .ref fo, .ref ce, .ref le, .int (nI cn), .int (nI kn)]), (g, zO 2 [.ref av, .ref an, .int (nI n), .int st]), (an, zI G 12 (fun j => nI (Nb j))), (ce, zI G 4096 (fun j => nI (Lc j))), (le, zI G 4096 (fun j => mI (Le j))), (fo, zI G 12 (fun j => nI ((va_up F i a) j)))]) rfl dSe_follow_75 (fun H locs w => ?_)
                  refine lv_iload_n hx hb dSe_follow_76 rfl (lv_at hl 3 rfl) ?_
                  refine lv_iconst (v := (nI 1)) hx hb dSe_follow_77 (by decide) ?_
                  refine lv_iload hx hb dSe_follow_78 (lv_at hl 1 rfl) ?_
                  refine z_shl1 hx hb (by omega) dSe_follow_80 ?_
                  refine z_orN hx hb dSe_follow_81 ?_
                  refine lv_istore_n (lv' := [(2, .int (nI (o ||| (2 ^ a)))), (5, .int (nI 1)), (4, .int (nI a)), (3, .int (nI i)), (0, .ref s0), (1, .int (mI wd))]) hx hb dSe_follow_82 rfl hl (by decide) rfl (fun ls hl => ?_)
                  refine lv_goto (tgt := 92) hx hb dSe_follow_83 (by decide) ?_
                  refine z_iinc (d := 1) (lv' := [(3, .int (nI (i + 1))), (2, .int (nI (o ||| (2 ^ a)))), (5, .int (nI 1)), (4, .int (nI a)), (0, .ref s0), (1, .int (mI wd))]) hx hb dSe_follow_92 hl (k := 3) rfl (by decide) (by decide) rfl (fun ls hl => ?_)
                  refine lv_goto (tgt := 4) hx hb dSe_follow_95 (by decide) ?_
                  refine ih4 (o ||| (2 ^ a)) (i + 1) (va_up F i a) ?_ ?_ ?_ ?_ ?_ _ _ w ls (lv_sub hl [0, 1, 4, 5] rfl)
                  · omega
                  · first | (rw [fwC_t (by rw [← ho, hfn]; omega), ← ho, hfn]; done) | (rw [fwC_f (by rw [← ho, hfn]; omega), ← ho])
                  · first | (rw [fwC_t (by rw [← ho, hfn]; omega), ← ho, hfn, ← hF]; done) | (rw [fwC_f (by rw [← ho, hfn]; omega), ← hF])
                  · first | exact or_lt2 ho2 (pw_lt2 (by omega)) | exact ho2
                  · omega
        refine L18 ((n - 0) + 1) 0 ?_ ?_ ?_ _ _ w ls (lv_sub hl [0, 1, 2, 3, 4] rfl)
        · omega
        · rfl
        · exact Nat.lt_succ_self _
  refine L4 ((n - 0) + 1) 0 0 Fo ?_ ?_ ?_ ?_ ?_ _ _ w ls (lv_sub hl [0, 1, 2, 3] rfl)
  · omega
  · rfl
  · rfl
  · omega
  · exact Nat.lt_succ_self _
