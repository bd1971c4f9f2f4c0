def rm_Mo_weighAll : Room := { frames := 2, cells := 0, slots := 0, locals := 100 }
set_option maxHeartbeats 4000000 in
set_option maxRecDepth 100000 in
theorem c_Mo_weighAll (l : Launch) (G : zG) (m0 av ab apl ase aco aen aor aba ali ale ach ast atw ats : Nat) (n stt nf mem kd sl fi tp th : Nat) (V Li Le Ch : Nat → Nat) (hn : n ≤ 12) (hV : ∀ j, V j ≤ 4) (hLi : ∀ i, Li i < 4096) (hLe : ∀ i, Le i ≤ 101) (sz : Nat) : Met l yMo_weighAll (.code yMo_weighAll cMo_weighAll 6 none :: zT) rm_Mo_weighAll (zPw G [.ref m0] [(m0, zO 7 [.int (nI n), .ref av, .ref ab, .ref apl, .int (nI stt), .int (nI nf), .ref ase, .ref aco, .ref aen, .int (nI mem), .int (nI kd), .int (nI sl), .ref aor, .ref aba, .int (nI fi), .ref ali, .ref ale, .ref ach, .ref ast, .ref atw, .ref ats, .int (nI tp), .int (nI th)]), (av, zI G 12 (fun j => nI (V j))), (ali, zI G 12 (fun j => nI (Li j))), (ale, zI G 4096 (fun j => mI (Le j))), (ach, zL G 4096 (fun j => mL (Ch j)))] sz) (zQ (S := Unit) G (fun u => none) (fun u => [(m0, zO 7 [.int (nI n), .ref av, .ref ab, .ref apl, .int (nI stt), .int (nI nf), .ref ase, .ref aco, .ref aen, .int (nI mem), .int (nI kd), .int (nI sl), .ref aor, .ref aba, .int (nI fi), .ref ali, .ref ale, .ref ach, .ref ast, .ref atw, .ref ats, .int (nI tp), .int (nI th)]), (av, zI G 12 (fun j => nI (V j))), (ali, zI G 12 (fun j => nI (Li j))), (ale, zI G 4096 (fun j => mI ((lwA Li Le n (2 ^ n - 1)) j))), (ach, zL G 4096 (fun j => mL ((chA V Li Ch n (lwA Li Le n (2 ^ n - 1) 0) (2 ^ n - 1)) j)))]) (va_A [(m0, zO 7 [.int (nI n), .ref av, .ref ab, .ref apl, .int (nI stt), .int (nI nf), .ref ase, .ref aco, .ref aen, .int (nI mem), .int (nI kd), .int (nI sl), .ref aor, .ref aba, .int (nI fi), .ref ali, .ref ale, .ref ach, .ref ast, .ref atw, .ref ats, .int (nI tp), .int (nI th)]), (av, zI G 12 (fun j => nI (V j))), (ali, zI G 12 (fun j => nI (Li j))), (ale, zI G 4096 (fun j => mI (Le j))), (ach, zL G 4096 (fun j => mL (Ch j)))] sz) (fun u => True)) 0 0 (va_A [(m0, zO 7 [.int (nI n), .ref av, .ref ab, .ref apl, .int (nI stt), .int (nI nf), .ref ase, .ref aco, .ref aen, .int (nI mem), .int (nI kd), .int (nI sl), .ref aor, .ref aba, .int (nI fi), .ref ali, .ref ale, .ref ach, .ref ast, .ref atw, .ref ats, .int (nI tp), .int (nI th)]), (av, zI G 12 (fun j => nI (V j))), (ali, zI G 12 (fun j => nI (Li j))), (ale, zI G 4096 (fun j => mI (Le j))), (ach, zL G 4096 (fun j => mL (Ch j)))] sz) := by
  refine z_metWv (by decide) (Nat.le_of_ble_eq_true rfl) (fun p e s m args below meth c ls A Q Sf hnm w hl hret => ?_)
  obtain ⟨H, hH⟩ : ∃ H, H = s.heap := ⟨_, rfl⟩
  obtain ⟨locs, hlo⟩ : ∃ L : List Loc, L = [] := ⟨_, rfl⟩
  rw [← hH, ← hlo] at w
  rw [← hH, ← hlo]
  clear hH hlo
  have Sf : CallFix p m c cMo_weighAll 6 s args zT RMo := Sf
  have hx := Sf.1
  have hb := Sf.2.1
  have hown := Sf.2.2.2.1
  have hts := Sf.2.2.2.2
  have hl : lv_has ls 6 [(0, .ref m0)] := hl
  have h2n : 1 ≤ 2 ^ n := Nat.one_le_two_pow
  have h2m : 2 ^ n ≤ 4096 := Nat.pow_le_pow_right (by decide) hn
  refine lv_iconst (v := (nI 1)) hx hb dMo_weighAll_0 (by decide) ?_
  refine lv_aload_n hx hb dMo_weighAll_1 rfl (lv_at hl 0 rfl) ?_
  refine gf_Mo_68 Sf w.1 0 rfl rfl dMo_weighAll_2 ?_
  refine z_shl1 hx hb (by omega) dMo_weighAll_5 ?_
  refine lv_iconst (v := (nI 1)) hx hb dMo_weighAll_6 (by decide) ?_
  refine z_subN hx hb h2n dMo_weighAll_7 ?_
  refine lv_istore_n (lv' := [(1, .int (nI ((2 ^ n) - 1))), (0, .ref m0)]) hx hb dMo_weighAll_8 rfl hl (by decide) rfl (fun ls hl => ?_)
  refine lv_aload_n hx hb dMo_weighAll_9 rfl (lv_at hl 1 rfl) ?_
  refine gf_Mo_37 Sf w.1 0 rfl rfl dMo_weighAll_10 ?_
  refine lv_iload_n hx hb dMo_weighAll_13 rfl (lv_at hl 0 rfl) ?_
  refine lv_iconst (v := (mI 0)) hx hb dMo_weighAll_14 (by decide) ?_
  refine z_iastM hx hb w 3 (k := ((2 ^ n) - 1)) rfl (by omega) (by omega) (ws' := [(m0, zO 7 [.int (nI n), .ref av, .ref ab, .ref apl, .int (nI stt), .int (nI nf), .ref ase, .ref aco, .ref aen, .int (nI mem), .int (nI kd), .int (nI sl), .ref aor, .ref aba, .int (nI fi), .ref ali, .ref ale, .ref ach, .ref ast, .ref atw, .ref ats, .int (nI tp), .int (nI th)]), (av, zI G 12 (fun j => nI (V j))), (ali, zI G 12 (fun j => nI (Li j))), (ale, zI G 4096 (fun j => mI ((va_up Le ((2 ^ n) - 1) 0) j))), (ach, zL G 4096 (fun j => mL (Ch j)))]) rfl dMo_weighAll_15 (fun H locs w => ?_)
  refine lv_iload_n hx hb dMo_weighAll_16 rfl (lv_at hl 0 rfl) ?_
  refine lv_iconst (v := (nI 1)) hx hb dMo_weighAll_17 (by decide) ?_
  refine z_subM hx hb dMo_weighAll_18 ?_
  refine lv_istore_n (lv' := [(2, .int (mI ((2 ^ n) - 1))), (1, .int (nI ((2 ^ n) - 1))), (0, .ref m0)]) hx hb dMo_weighAll_19 rfl hl (by decide) rfl (fun ls hl => ?_)
  have L20 : ∀ (fu20 : Nat) (t : Nat) (F1 : Nat → Nat), (t ≤ 2 ^ n - 1) → (F1 = lwA Li Le n (2 ^ n - 1 - t)) → (t) < fu20 → ∀ (H : Heap) (locs : List Loc), zw G A s [(m0, zO 7 [.int (nI n), .ref av, .ref ab, .ref apl, .int (nI stt), .int (nI nf), .ref ase, .ref aco, .ref aen, .int (nI mem), .int (nI kd), .int (nI sl), .ref aor, .ref aba, .int (nI fi), .ref ali, .ref ale, .ref ach, .ref ast, .ref atw, .ref ats, .int (nI tp), .int (nI th)]), (av, zI G 12 (fun j => nI (V j))), (ali, zI G 12 (fun j => nI (Li j))), (ale, zI G 4096 (fun j => mI (F1 j))), (ach, zL G 4096 (fun j => mL (Ch j)))] H locs → ∀ (ls : Array Slot), lv_has ls 6 [(2, .int (mI t)), (1, .int (nI ((2 ^ n) - 1))), (0, .ref m0)] → W p l e rm_Mo_weighAll s m args below meth c H locs 0 0 Q (F0 m 20 ls []) := by
    intro fu20
    induction fu20 with
    | zero =>
      intro t F1 ht hF1 hm20
      exact absurd hm20 (Nat.not_lt_zero _)
    | succ fu20 ih20 =>
      intro t F1 ht hF1 hm20 H locs w ls hl
      refine lv_iload_n hx hb dMo_weighAll_20 rfl (lv_at hl 0 rfl) ?_
      refine z_ifltM (tgt := 131) hx hb (by omega) dMo_weighAll_21 (by decide) (fun c21 => ?_) (fun c21 => ?_)
      · skip
        refine lv_aload_n hx hb dMo_weighAll_131 rfl (lv_at hl 2 rfl) ?_
        refine gf_Mo_40 Sf w.1 0 rfl rfl dMo_weighAll_132 ?_
        refine lv_iload_n hx hb dMo_weighAll_135 rfl (lv_at hl 1 rfl) ?_
        refine lv_lconst (v := lN 0) hx hb dMo_weighAll_136 (by decide) ?_
        rw [← mL_s 0]
        refine z_lastM hx hb w 4 (k := ((2 ^ n) - 1)) rfl (by omega) (by omega) (ws' := [(m0, zO 7 [.int (nI n), .ref av, .ref ab, .ref apl, .int (nI stt), .int (nI nf), .ref ase, .ref aco, .ref aen, .int (nI mem), .int (nI kd), .int (nI sl), .ref aor, .ref aba, .int (nI fi), .ref ali, .ref ale, .ref ach, .ref ast, .ref atw, .ref ats, .int (nI tp), .int (nI th)]), (av, zI G 12 (fun j => nI (V j))), (ali, zI G 12 (fun j => nI (Li j))), (ale, zI G 4096 (fun j => mI (F1 j))), (ach, zL G 4096 (fun j => mL ((va_up Ch ((2 ^ n) - 1) 1) j)))]) rfl dMo_weighAll_137 (fun H locs w => ?_)
        refine lv_iload_n hx hb dMo_weighAll_138 rfl (lv_at hl 1 rfl) ?_
        refine lv_iconst (v := (nI 1)) hx hb dMo_weighAll_139 (by decide) ?_
        refine z_subM hx hb dMo_weighAll_140 ?_
        refine lv_istore_n (lv' := [(2, .int (mI ((2 ^ n) - 1))), (1, .int (nI ((2 ^ n) - 1))), (0, .ref m0)]) hx hb dMo_weighAll_141 rfl hl (by decide) rfl (fun ls hl => ?_)
        have L142 : ∀ (fu142 : Nat) (t : Nat) (F3 : Nat → Nat), (t ≤ 2 ^ n - 1) → (F3 = chA V Li Ch n (F1 0) (2 ^ n - 1 - t)) → (t) < fu142 → ∀ (H : Heap) (locs : List Loc), zw G A s [(m0, zO 7 [.int (nI n), .ref av, .ref ab, .ref apl, .int (nI stt), .int (nI nf), .ref ase, .ref aco, .ref aen, .int (nI mem), .int (nI kd), .int (nI sl), .ref aor, .ref aba, .int (nI fi), .ref ali, .ref ale, .ref ach, .ref ast, .ref atw, .ref ats, .int (nI tp), .int (nI th)]), (av, zI G 12 (fun j => nI (V j))), (ali, zI G 12 (fun j => nI (Li j))), (ale, zI G 4096 (fun j => mI (F1 j))), (ach, zL G 4096 (fun j => mL (F3 j)))] H locs → ∀ (ls : Array Slot), lv_has ls 6 [(2, .int (mI t)), (1, .int (nI ((2 ^ n) - 1))), (0, .ref m0)] → W p l e rm_Mo_weighAll s m args below meth c H locs 0 0 Q (F0 m 142 ls []) := by
          intro fu142
          induction fu142 with
          | zero =>
            intro t F3 ht hF3 hm142
            exact absurd hm142 (Nat.not_lt_zero _)
          | succ fu142 ih142 =>
            intro t F3 ht hF3 hm142 H locs w ls hl
            refine lv_iload_n hx hb dMo_weighAll_142 rfl (lv_at hl 0 rfl) ?_
            refine z_ifltM (tgt := 240) hx hb (by omega) dMo_weighAll_143 (by decide) (fun c143 => ?_) (fun c143 => ?_)
            · skip
              exact hret _ _ _ _ () _ w (by rw [hF3, c143, hF1, c21, Nat.sub_zero]) (trivial) dMo_weighAll_240 rfl
            · skip
              obtain ⟨t2, rfl⟩ : ∃ t2, t = t2 + 1 := ⟨t - 1, by omega⟩
              have hl : lv_has ls 6 [(2, .int (nI t2)), (1, .int (nI ((2 ^ n) - 1))), (0, .ref m0)] := by simpa only [mI_s] using hl
              refine lv_aload_n hx hb dMo_weighAll_146 rfl (lv_at hl 2 rfl) ?_
              refine gf_Mo_40 Sf w.1 0 rfl rfl dMo_weighAll_147 ?_
              refine lv_iload_n hx hb dMo_weighAll_150 rfl (lv_at hl 0 rfl) ?_
              refine lv_ldc2 (v := (mL 0)) hx hb hown (hts _ kc_Mo_107) dMo_weighAll_151 ?_
              refine z_lastM hx hb w 4 (k := t2) rfl (by omega) (by omega) (ws' := [(m0, zO 7 [.int (nI n), .ref av, .ref ab, .ref apl, .int (nI stt), .int (nI nf), .ref ase, .ref aco, .ref aen, .int (nI mem), .int (nI kd), .int (nI sl), .ref aor, .ref aba, .int (nI fi), .ref ali, .ref ale, .ref ach, .ref ast, .ref atw, .ref ats, .int (nI tp), .int (nI th)]), (av, zI G 12 (fun j => nI (V j))), (ali, zI G 12 (fun j => nI (Li j))), (ale, zI G 4096 (fun j => mI (F1 j))), (ach, zL G 4096 (fun j => mL ((va_up F3 t2 0) j)))]) rfl dMo_weighAll_154 (fun H locs w => ?_)
              refine lv_iconst (v := (nI 0)) hx hb dMo_weighAll_155 (by decide) ?_
              refine lv_istore_n (lv' := [(3, .int (nI 0)), (2, .int (nI t2)), (1, .int (nI ((2 ^ n) - 1))), (0, .ref m0)]) hx hb dMo_weighAll_156 rfl hl (by decide) rfl (fun ls hl => ?_)
              have L157 : ∀ (fu157 : Nat) (a : Nat) (F4 : Nat → Nat), (a ≤ n) → (F4 = va_up F3 t2 (chS V Li F3 n (F1 0) t2 a)) → (n - a) < fu157 → ∀ (H : Heap) (locs : List Loc), zw G A s [(m0, zO 7 [.int (nI n), .ref av, .ref ab, .ref apl, .int (nI stt), .int (nI nf), .ref ase, .ref aco, .ref aen, .int (nI mem), .int (nI kd), .int (nI sl), .ref aor, .ref aba, .int (nI fi), .ref ali, .ref ale, .ref ach, .ref ast, .ref atw, .ref ats, .int (nI tp), .int (nI th)]), (av, zI G 12 (fun j => nI (V j))), (ali, zI G 12 (fun j => nI (Li j))), (ale, zI G 4096 (fun j => mI (F1 j))), (ach, zL G 4096 (fun j => mL (F4 j)))] H locs → ∀ (ls : Array Slot), lv_has ls 6 [(3, .int (nI a)), (2, .int (nI t2)), (1, .int (nI ((2 ^ n) - 1))), (0, .ref m0)] → W p l e rm_Mo_weighAll s m args below meth c H locs 0 0 Q (F0 m 157 ls []) := by
                intro fu157
                induction fu157 with
                | zero =>
                  intro a F4 ha hF4 hm157
                  exact absurd hm157 (Nat.not_lt_zero _)
                | succ fu157 ih157 =>
                  intro a F4 ha hF4 hm157 H locs w ls hl
                  have h42 : F4 t2 = chS V Li F3 n (F1 0) t2 a := by rw [hF4, va_up_self]
                  have hB3 : ∀ b, b < n → t2.testBit b = false → F3 (t2 ||| 2 ^ b) ≤ 4096 * 16777216 + 1 := fun b hb1 hb2 => by
                    have hg := or_gt hb2
                    have hl2 : t2 ||| 2 ^ b < 2 ^ n := or_lt2 (by omega) (pw_lt2 hb1)
                    rw [hF3]
                    refine Nat.le_trans (chA_b hV hn _ (by omega) _ (by omega) (by omega)) ?_
                    omega
                  have hB4 := chS_le (L := Li) (F := F3) (wd := F1 0) (out := t2) hV hn a ha hB3
                  refine lv_iload_n hx hb dMo_weighAll_157 rfl (lv_at hl 0 rfl) ?_
                  refine lv_aload_n hx hb dMo_weighAll_158 rfl (lv_at hl 3 rfl) ?_
                  refine gf_Mo_68 Sf w.1 0 rfl rfl dMo_weighAll_159 ?_
                  refine z_icmpge (tgt := 234) hx hb (by omega) (by omega) dMo_weighAll_162 (by decide) (fun c162 => ?_) (fun c162 => ?_)
                  · skip
                    refine lv_iinc (v := (mI t2)) (lv' := [(2, .int (mI t2)), (3, .int (nI a)), (1, .int (nI ((2 ^ n) - 1))), (0, .ref m0)]) hx hb dMo_weighAll_234 hl (k := 1) rfl (mI_dec t2) (by decide) rfl (fun ls hl => ?_)
                    refine lv_goto (tgt := 142) hx hb dMo_weighAll_237 (by decide) ?_
                    refine ih142 t2 F4 ?_ ?_ ?_ _ _ w ls (lv_sub hl [0, 2, 3] rfl)
                    · omega
                    · rw [hF4, show a = n by omega, show 2 ^ n - 1 - t2 = (2 ^ n - 1 - (t2 + 1)) + 1 by omega]; simp only [chA]; rw [← hF3, show 2 ^ n - 1 - 1 - (2 ^ n - 1 - (t2 + 1)) = t2 by omega]
                    · omega
                  · skip
                    refine lv_iload_n hx hb dMo_weighAll_165 rfl (lv_at hl 1 rfl) ?_
                    refine lv_iload_n hx hb dMo_weighAll_166 rfl (lv_at hl 0 rfl) ?_
                    refine z_shrN hx hb (by omega) (by omega) dMo_weighAll_167 ?_
                    refine lv_iconst (v := (nI 1)) hx hb dMo_weighAll_168 (by decide) ?_
                    refine z_and1 hx hb dMo_weighAll_169 ?_
                    refine z_ifneSB (tgt := 228) hx hb dMo_weighAll_170 (by decide) (fun c170 => ?_) (fun c170 => ?_)
                    · skip
                      refine z_iinc (d := 1) (lv' := [(3, .int (nI (a + 1))), (2, .int (nI t2)), (1, .int (nI ((2 ^ n) - 1))), (0, .ref m0)]) hx hb dMo_weighAll_228 hl (k := 0) rfl (by decide) (by decide) rfl (fun ls hl => ?_)
                      refine lv_goto (tgt := 157) hx hb dMo_weighAll_231 (by decide) ?_
                      refine ih157 (a + 1) F4 ?_ ?_ ?_ _ _ w ls (lv_sub hl [0, 1, 2, 3] rfl)
                      · omega
                      · first | (rw [chS_o c170]; exact hF4) | (rw [upup hF4, chS_y c170 ⟨by omega, Or.inr (by rw [← h42]; exact c213)⟩]; done) | (rw [upup hF4, chS_n c170 (fun h => h.2.elim (fun q => by rw [← h42] at q; omega) (fun q => by rw [← h42] at q; omega)), h42]; done) | (rw [upup hF4, chS_y c170 ⟨by omega, Or.inl (by rw [← h42]; omega)⟩]; done) | (rw [upup hF4, chS_n c170 (fun h => h.1 (by omega)), h42])
                      · omega
                    · skip
                      have hr : F4 (t2 ||| 2 ^ a) = F3 (t2 ||| 2 ^ a) := by rw [hF4, va_up_ne _ _ (or_ne c170)]
                      have hb3 := hB3 a (by omega) c170
                      have hpb := pcF_le (L := Li) (wd := F1 0) hV hn hb3
                      have hF10 : F1 0 ≤ 101 := by rw [hF1]; exact lwA_le hLe _ 0
                      refine lv_aload_n hx hb dMo_weighAll_173 rfl (lv_at hl 3 rfl) ?_
                      refine lv_iload_n hx hb dMo_weighAll_174 rfl (lv_at hl 0 rfl) ?_
                      refine lv_iload_n hx hb dMo_weighAll_175 rfl (lv_at hl 1 rfl) ?_
                      refine z_rV (As := [.int (nI a), .int (nI t2)]) (rest := []) Sf (c_Mo_price l G m0 av ab apl ase aco aen aor aba ali ale ach ast atw ats n stt nf mem kd sl fi tp th V Li F1 F4 a t2 (by first | assumption | omega) (by omega) (by first | assumption | omega) (by first | assumption | omega) (by omega) hF10 (by rw [hr]; omega)) mv_Mo_123 ⟨rfl, rfl⟩ ⟨Nat.le_of_ble_eq_true rfl, Nat.le_of_ble_eq_true rfl⟩ w.1 [0, 1, 2, 3, 4] rfl 0 rfl rfl rfl rfl hl.1 rfl (Nat.le_of_ble_eq_true rfl) dMo_weighAll_176 ⟨Nat.le_of_ble_eq_true rfl, Nat.le_of_ble_eq_true rfl⟩ ?_
                      rw [pcF_congr hr]
                      refine lv_lstore (lv' := [(4, .long (mL (pcF V Li n (F1 0) F3 a t2))), (3, .int (nI a)), (2, .int (nI t2)), (1, .int (nI ((2 ^ n) - 1))), (0, .ref m0)]) hx hb dMo_weighAll_179 hl (by decide) rfl (fun ls hl => ?_)
                      refine lv_aload_n hx hb dMo_weighAll_181 rfl (lv_at hl 4 rfl) ?_
                      refine gf_Mo_40 Sf w.1 0 rfl rfl dMo_weighAll_182 ?_
                      refine lv_iload_n hx hb dMo_weighAll_185 rfl (lv_at hl 2 rfl) ?_
                      refine lv_lload hx hb dMo_weighAll_186 (lv_at hl 0 rfl) ?_
                      refine lv_lconst (v := lN 0) hx hb dMo_weighAll_188 (by decide) ?_
                      refine W.lcmp hx hb dMo_weighAll_189 ?_
                      refine z_lcltMN (tgt := 221) hx hb (by omega) (by omega) dMo_weighAll_190 (by decide) (fun c190 => ?_) (fun c190 => ?_)
                      · skip
                        refine lv_aload_n hx hb dMo_weighAll_221 rfl (lv_at hl 4 rfl) ?_
                        refine gf_Mo_40 Sf w.1 0 rfl rfl dMo_weighAll_222 ?_
                        refine lv_iload_n hx hb dMo_weighAll_225 rfl (lv_at hl 2 rfl) ?_
                        refine z_lald hx hb w.1 4 (k := t2) rfl (by omega) (by omega) dMo_weighAll_226 ?_
                        refine z_lastM hx hb w 4 (k := t2) rfl (by omega) (by omega) (ws' := [(m0, zO 7 [.int (nI n), .ref av, .ref ab, .ref apl, .int (nI stt), .int (nI nf), .ref ase, .ref aco, .ref aen, .int (nI mem), .int (nI kd), .int (nI sl), .ref aor, .ref aba, .int (nI fi), .ref ali, .ref ale, .ref ach, .ref ast, .ref atw, .ref ats, .int (nI tp), .int (nI th)]), (av, zI G 12 (fun j => nI (V j))), (ali, zI G 12 (fun j => nI (Li j))), (ale, zI G 4096 (fun j => mI (F1 j))), (ach, zL G 4096 (fun j => mL ((va_up F4 t2 (F4 t2)) j)))]) rfl dMo_weighAll_227 (fun H locs w => ?_)
                        refine z_iinc (d := 1) (lv' := [(3, .int (nI (a + 1))), (4, .long (mL (pcF V Li n (F1 0) F3 a t2))), (2, .int (nI t2)), (1, .int (nI ((2 ^ n) - 1))), (0, .ref m0)]) hx hb dMo_weighAll_228 hl (k := 1) rfl (by decide) (by decide) rfl (fun ls hl => ?_)
                        refine lv_goto (tgt := 157) hx hb dMo_weighAll_231 (by decide) ?_
                        refine ih157 (a + 1) (va_up F4 t2 (F4 t2)) ?_ ?_ ?_ _ _ w ls (lv_sub hl [0, 2, 3, 4] rfl)
                        · omega
                        · first | (rw [chS_o c170]; exact hF4) | (rw [upup hF4, chS_y c170 ⟨by omega, Or.inr (by rw [← h42]; exact c213)⟩]; done) | (rw [upup hF4, chS_n c170 (fun h => h.2.elim (fun q => by rw [← h42] at q; omega) (fun q => by rw [← h42] at q; omega)), h42]; done) | (rw [upup hF4, chS_y c170 ⟨by omega, Or.inl (by rw [← h42]; omega)⟩]; done) | (rw [upup hF4, chS_n c170 (fun h => h.1 (by omega)), h42])
                        · omega
                      · skip
                        refine lv_aload_n hx hb dMo_weighAll_193 rfl (lv_at hl 4 rfl) ?_
                        refine gf_Mo_40 Sf w.1 0 rfl rfl dMo_weighAll_194 ?_
                        refine lv_iload_n hx hb dMo_weighAll_197 rfl (lv_at hl 2 rfl) ?_
                        refine z_lald hx hb w.1 4 (k := t2) rfl (by omega) (by omega) dMo_weighAll_198 ?_
                        refine lv_lconst (v := lN 0) hx hb dMo_weighAll_199 (by decide) ?_
                        refine W.lcmp hx hb dMo_weighAll_200 ?_
                        refine z_lcltMN (tgt := 216) hx hb (by omega) (by omega) dMo_weighAll_201 (by decide) (fun c201 => ?_) (fun c201 => ?_)
                        · skip
                          refine lv_lload hx hb dMo_weighAll_216 (lv_at hl 0 rfl) ?_
                          refine lv_goto (tgt := 227) hx hb dMo_weighAll_218 (by decide) ?_
                          refine z_lastM hx hb w 4 (k := t2) rfl (by omega) (by omega) (ws' := [(m0, zO 7 [.int (nI n), .ref av, .ref ab, .ref apl, .int (nI stt), .int (nI nf), .ref ase, .ref aco, .ref aen, .int (nI mem), .int (nI kd), .int (nI sl), .ref aor, .ref aba, .int (nI fi), .ref ali, .ref ale, .ref ach, .ref ast, .ref atw, .ref ats, .int (nI tp), .int (nI th)]), (av, zI G 12 (fun j => nI (V j))), (ali, zI G 12 (fun j => nI (Li j))), (ale, zI G 4096 (fun j => mI (F1 j))), (ach, zL G 4096 (fun j => mL ((va_up F4 t2 (pcF V Li n (F1 0) F3 a t2)) j)))]) rfl dMo_weighAll_227 (fun H locs w => ?_)
                          refine z_iinc (d := 1) (lv' := [(3, .int (nI (a + 1))), (4, .long (mL (pcF V Li n (F1 0) F3 a t2))), (2, .int (nI t2)), (1, .int (nI ((2 ^ n) - 1))), (0, .ref m0)]) hx hb dMo_weighAll_228 hl (k := 1) rfl (by decide) (by decide) rfl (fun ls hl => ?_)
                          refine lv_goto (tgt := 157) hx hb dMo_weighAll_231 (by decide) ?_
                          refine ih157 (a + 1) (va_up F4 t2 (pcF V Li n (F1 0) F3 a t2)) ?_ ?_ ?_ _ _ w ls (lv_sub hl [0, 2, 3, 4] rfl)
                          · omega
                          · first | (rw [chS_o c170]; exact hF4) | (rw [upup hF4, chS_y c170 ⟨by omega, Or.inr (by rw [← h42]; exact c213)⟩]; done) | (rw [upup hF4, chS_n c170 (fun h => h.2.elim (fun q => by rw [← h42] at q; omega) (fun q => by rw [← h42] at q; omega)), h42]; done) | (rw [upup hF4, chS_y c170 ⟨by omega, Or.inl (by rw [← h42]; omega)⟩]; done) | (rw [upup hF4, chS_n c170 (fun h => h.1 (by omega)), h42])
                          · omega
                        · skip
                          refine lv_lload hx hb dMo_weighAll_204 (lv_at hl 0 rfl) ?_
                          refine lv_aload_n hx hb dMo_weighAll_206 rfl (lv_at hl 4 rfl) ?_
                          refine gf_Mo_40 Sf w.1 0 rfl rfl dMo_weighAll_207 ?_
                          refine lv_iload_n hx hb dMo_weighAll_210 rfl (lv_at hl 2 rfl) ?_
                          refine z_lald hx hb w.1 4 (k := t2) rfl (by omega) (by omega) dMo_weighAll_211 ?_
                          refine W.lcmp hx hb dMo_weighAll_212 ?_
                          refine z_lcgeMM (tgt := 221) hx hb (by omega) (by omega) dMo_weighAll_213 (by decide) (fun c213 => ?_) (fun c213 => ?_)
                          · skip
                            refine lv_aload_n hx hb dMo_weighAll_221 rfl (lv_at hl 4 rfl) ?_
                            refine gf_Mo_40 Sf w.1 0 rfl rfl dMo_weighAll_222 ?_
                            refine lv_iload_n hx hb dMo_weighAll_225 rfl (lv_at hl 2 rfl) ?_
                            refine z_lald hx hb w.1 4 (k := t2) rfl (by omega) (by omega) dMo_weighAll_226 ?_
                            refine z_lastM hx hb w 4 (k := t2) rfl (by omega) (by omega) (ws' := [(m0, zO 7 [.int (nI n), .ref av, .ref ab, .ref apl, .int (nI stt), .int (nI nf), .ref ase, .ref aco, .ref aen, .int (nI mem), .int (nI kd), .int (nI sl), .ref aor, .ref aba, .int (nI fi), .ref ali, .ref ale, .ref ach, .ref ast, .ref atw, .ref ats, .int (nI tp), .int (nI th)]), (av, zI G 12 (fun j => nI (V j))), (ali, zI G 12 (fun j => nI (Li j))), (ale, zI G 4096 (fun j => mI (F1 j))), (ach, zL G 4096 (fun j => mL ((va_up F4 t2 (F4 t2)) j)))]) rfl dMo_weighAll_227 (fun H locs w => ?_)
                            refine z_iinc (d := 1) (lv' := [(3, .int (nI (a + 1))), (4, .long (mL (pcF V Li n (F1 0) F3 a t2))), (2, .int (nI t2)), (1, .int (nI ((2 ^ n) - 1))), (0, .ref m0)]) hx hb dMo_weighAll_228 hl (k := 1) rfl (by decide) (by decide) rfl (fun ls hl => ?_)
                            refine lv_goto (tgt := 157) hx hb dMo_weighAll_231 (by decide) ?_
                            refine ih157 (a + 1) (va_up F4 t2 (F4 t2)) ?_ ?_ ?_ _ _ w ls (lv_sub hl [0, 2, 3, 4] rfl)
                            · omega
                            · first | (rw [chS_o c170]; exact hF4) | (rw [upup hF4, chS_y c170 ⟨by omega, Or.inr (by rw [← h42]; exact c213)⟩]; done) | (rw [upup hF4, chS_n c170 (fun h => h.2.elim (fun q => by rw [← h42] at q; omega) (fun q => by rw [← h42] at q; omega)), h42]; done) | (rw [upup hF4, chS_y c170 ⟨by omega, Or.inl (by rw [← h42]; omega)⟩]; done) | (rw [upup hF4, chS_n c170 (fun h => h.1 (by omega)), h42])
                            · omega
                          · skip
                            refine lv_lload hx hb dMo_weighAll_216 (lv_at hl 0 rfl) ?_
                            refine lv_goto (tgt := 227) hx hb dMo_weighAll_218 (by decide) ?_
                            refine z_lastM hx hb w 4 (k := t2) rfl (by omega) (by omega) (ws' := [(m0, zO 7 [.int (nI n), .ref av, .ref ab, .ref apl, .int (nI stt), .int (nI nf), .ref ase, .ref aco, .ref aen, .int (nI mem), .int (nI kd), .int (nI sl), .ref aor, .ref aba, .int (nI fi), .ref ali, .ref ale, .ref ach, .ref ast, .ref atw, .ref ats, .int (nI tp), .int (nI th)]), (av, zI G 12 (fun j => nI (V j))), (ali, zI G 12 (fun j => nI (Li j))), (ale, zI G 4096 (fun j => mI (F1 j))), (ach, zL G 4096 (fun j => mL ((va_up F4 t2 (pcF V Li n (F1 0) F3 a t2)) j)))]) rfl dMo_weighAll_227 (fun H locs w => ?_)
                            refine z_iinc (d := 1) (lv' := [(3, .int (nI (a + 1))), (4, .long (mL (pcF V Li n (F1 0) F3 a t2))), (2, .int (nI t2)), (1, .int (nI ((2 ^ n) - 1))), (0, .ref m0)]) hx hb dMo_weighAll_228 hl (k := 1) rfl (by decide) (by decide) rfl (fun ls hl => ?_)
                            refine lv_goto (tgt := 157) hx hb dMo_weighAll_231 (by decide) ?_
                            refine ih157 (a + 1) (va_up F4 t2 (pcF V Li n (F1 0) F3 a t2)) ?_ ?_ ?_ _ _ w ls (lv_sub hl [0, 2, 3, 4] rfl)
                            · omega
                            · first | (rw [chS_o c170]; exact hF4) | (rw [upup hF4, chS_y c170 ⟨by omega, Or.inr (by rw [← h42]; exact c213)⟩]; done) | (rw [upup hF4, chS_n c170 (fun h => h.2.elim (fun q => by rw [← h42] at q; omega) (fun q => by rw [← h42] at q; omega)), h42]; done) | (rw [upup hF4, chS_y c170 ⟨by omega, Or.inl (by rw [← h42]; omega)⟩]; done) | (rw [upup hF4, chS_n c170 (fun h => h.1 (by omega)), h42])
                            · omega
              refine L157 ((n - 0) + 1) 0 (va_up F3 t2 0) ?_ ?_ ?_ _ _ w ls (lv_sub hl [0, 1, 2, 3] rfl)
              · omega
              · rfl
              · exact Nat.lt_succ_self _
        refine L142 ((((2 ^ n) - 1)) + 1) ((2 ^ n) - 1) (va_up Ch ((2 ^ n) - 1) 1) ?_ ?_ ?_ _ _ w ls (lv_sub hl [0, 1, 2] rfl)
        · omega
        · rw [Nat.sub_self]; rfl
        · exact Nat.lt_succ_self _
      · skip
        obtain ⟨t2, rfl⟩ : ∃ t2, t = t2 + 1 := ⟨t - 1, by omega⟩
        have hl : lv_has ls 6 [(2, .int (nI t2)), (1, .int (nI ((2 ^ n) - 1))), (0, .ref m0)] := by simpa only [mI_s] using hl
        refine lv_aload_n hx hb dMo_weighAll_24 rfl (lv_at hl 2 rfl) ?_
        refine gf_Mo_37 Sf w.1 0 rfl rfl dMo_weighAll_25 ?_
        refine lv_iload_n hx hb dMo_weighAll_28 rfl (lv_at hl 0 rfl) ?_
        refine lv_bipush (v := nI 100) hx hb dMo_weighAll_29 (by decide) ?_
        rw [← mI_s 100]
        refine z_iastM hx hb w 3 (k := t2) rfl (by omega) (by omega) (ws' := [(m0, zO 7 [.int (nI n), .ref av, .ref ab, .ref apl, .int (nI stt), .int (nI nf), .ref ase, .ref aco, .ref aen, .int (nI mem), .int (nI kd), .int (nI sl), .ref aor, .ref aba, .int (nI fi), .ref ali, .ref ale, .ref ach, .ref ast, .ref atw, .ref ats, .int (nI tp), .int (nI th)]), (av, zI G 12 (fun j => nI (V j))), (ali, zI G 12 (fun j => nI (Li j))), (ale, zI G 4096 (fun j => mI ((va_up F1 t2 101) j))), (ach, zL G 4096 (fun j => mL (Ch j)))]) rfl dMo_weighAll_31 (fun H locs w => ?_)
        refine lv_iconst (v := (nI 0)) hx hb dMo_weighAll_32 (by decide) ?_
        refine lv_istore_n (lv' := [(3, .int (nI 0)), (2, .int (nI t2)), (1, .int (nI ((2 ^ n) - 1))), (0, .ref m0)]) hx hb dMo_weighAll_33 rfl hl (by decide) rfl (fun ls hl => ?_)
        have L34 : ∀ (fu34 : Nat) (a : Nat) (F2 : Nat → Nat), (a ≤ n) → (F2 = va_up F1 t2 (lwS Li F1 n t2 a)) → (n - a) < fu34 → ∀ (H : Heap) (locs : List Loc), zw G A s [(m0, zO 7 [.int (nI n), .ref av, .ref ab, .ref apl, .int (nI stt), .int (nI nf), .ref ase, .ref aco, .ref aen, .int (nI mem), .int (nI kd), .int (nI sl), .ref aor, .ref aba, .int (nI fi), .ref ali, .ref ale, .ref ach, .ref ast, .ref atw, .ref ats, .int (nI tp), .int (nI th)]), (av, zI G 12 (fun j => nI (V j))), (ali, zI G 12 (fun j => nI (Li j))), (ale, zI G 4096 (fun j => mI (F2 j))), (ach, zL G 4096 (fun j => mL (Ch j)))] H locs → ∀ (ls : Array Slot), lv_has ls 6 [(3, .int (nI a)), (2, .int (nI t2)), (1, .int (nI ((2 ^ n) - 1))), (0, .ref m0)] → W p l e rm_Mo_weighAll s m args below meth c H locs 0 0 Q (F0 m 34 ls []) := by
          intro fu34
          induction fu34 with
          | zero =>
            intro a F2 ha hF2 hm34
            exact absurd hm34 (Nat.not_lt_zero _)
          | succ fu34 ih34 =>
            intro a F2 ha hF2 hm34 H locs w ls hl
            have hFle : ∀ i, F1 i ≤ 101 := fun i => by rw [hF1]; exact lwA_le hLe _ i
            have hl1 := lwS_le (L := Li) (F := F1) (n := n) (out := t2) a
            have h22 : F2 t2 = lwS Li F1 n t2 a := by rw [hF2, va_up_self]
            refine lv_iload_n hx hb dMo_weighAll_34 rfl (lv_at hl 0 rfl) ?_
            refine lv_aload_n hx hb dMo_weighAll_35 rfl (lv_at hl 3 rfl) ?_
            refine gf_Mo_68 Sf w.1 0 rfl rfl dMo_weighAll_36 ?_
            refine z_icmpge (tgt := 125) hx hb (by omega) (by omega) dMo_weighAll_39 (by decide) (fun c39 => ?_) (fun c39 => ?_)
            · skip
              refine lv_iinc (v := (mI t2)) (lv' := [(2, .int (mI t2)), (3, .int (nI a)), (1, .int (nI ((2 ^ n) - 1))), (0, .ref m0)]) hx hb dMo_weighAll_125 hl (k := 1) rfl (mI_dec t2) (by decide) rfl (fun ls hl => ?_)
              refine lv_goto (tgt := 20) hx hb dMo_weighAll_128 (by decide) ?_
              refine ih20 t2 F2 ?_ ?_ ?_ _ _ w ls (lv_sub hl [0, 2, 3] rfl)
              · omega
              · rw [hF2, show a = n by omega, show 2 ^ n - 1 - t2 = (2 ^ n - 1 - (t2 + 1)) + 1 by omega]; simp only [lwA]; rw [← hF1, show 2 ^ n - 1 - 1 - (2 ^ n - 1 - (t2 + 1)) = t2 by omega]
              · omega
            · skip
              refine lv_iload_n hx hb dMo_weighAll_42 rfl (lv_at hl 1 rfl) ?_
              refine lv_iload_n hx hb dMo_weighAll_43 rfl (lv_at hl 0 rfl) ?_
              refine z_shrN hx hb (by omega) (by omega) dMo_weighAll_44 ?_
              refine lv_iconst (v := (nI 1)) hx hb dMo_weighAll_45 (by decide) ?_
              refine z_and1 hx hb dMo_weighAll_46 ?_
              refine z_ifneSB (tgt := 119) hx hb dMo_weighAll_47 (by decide) (fun c47 => ?_) (fun c47 => ?_)
              · skip
                refine z_iinc (d := 1) (lv' := [(3, .int (nI (a + 1))), (2, .int (nI t2)), (1, .int (nI ((2 ^ n) - 1))), (0, .ref m0)]) hx hb dMo_weighAll_119 hl (k := 0) rfl (by decide) (by decide) rfl (fun ls hl => ?_)
                refine lv_goto (tgt := 34) hx hb dMo_weighAll_122 (by decide) ?_
                refine ih34 (a + 1) F2 ?_ ?_ ?_ _ _ w ls (lv_sub hl [0, 1, 2, 3] rfl)
                · omega
                · first | (rw [lwS_o c47]; exact hF2) | (rw [upup hF2, lwS_i c47]; congr 1; omega)
                · omega
              · skip
                have hbg : mbF Li n a t2 < 4096 := mbF_lt hLi (by omega)
                have hpp := popc_le _ hbg
                have hr : F2 (t2 ||| 2 ^ a) = F1 (t2 ||| 2 ^ a) := by rw [hF2, va_up_ne _ _ (or_ne c47)]
                have hr2 := hFle (t2 ||| 2 ^ a)
                refine lv_aload_n hx hb dMo_weighAll_50 rfl (lv_at hl 3 rfl) ?_
                refine lv_iload_n hx hb dMo_weighAll_51 rfl (lv_at hl 0 rfl) ?_
                refine lv_iload_n hx hb dMo_weighAll_52 rfl (lv_at hl 1 rfl) ?_
                refine z_rV (As := [.int (nI a), .int (nI t2)]) (rest := []) Sf (c_Mo_bagOf l G m0 av ab apl ase aco aen aor aba ali ale ach ast atw ats n stt nf mem kd sl fi tp th Li a t2 (by first | assumption | omega) (by omega) (by first | assumption | omega) (by omega)) mv_Mo_119 ⟨rfl, rfl⟩ ⟨Nat.le_of_ble_eq_true rfl, Nat.le_of_ble_eq_true rfl⟩ w.1 [0, 2] rfl 0 rfl rfl rfl rfl hl.1 rfl (Nat.le_of_ble_eq_true rfl) dMo_weighAll_53 ⟨Nat.le_of_ble_eq_true rfl, Nat.le_of_ble_eq_true rfl⟩ ?_
                refine z_rS (As := [.int (nI (mbF Li n a t2))]) (rest := []) Sf (c_Mo_many l G (mbF Li n a t2) hbg) mv_Mo_86 ⟨rfl, rfl⟩ ⟨Nat.le_of_ble_eq_true rfl, Nat.le_of_ble_eq_true rfl⟩ w.1 [] rfl rfl hl.1 rfl (Nat.le_of_ble_eq_true rfl) dMo_weighAll_56 ⟨Nat.le_of_ble_eq_true rfl, Nat.le_of_ble_eq_true rfl⟩ ?_
                refine lv_iconst (v := (nI 1)) hx hb dMo_weighAll_59 (by decide) ?_
                refine z_subM hx hb dMo_weighAll_60 ?_
                refine lv_istore (lv' := [(4, .int (mI (popc (mbF Li n a t2)))), (3, .int (nI a)), (2, .int (nI t2)), (1, .int (nI ((2 ^ n) - 1))), (0, .ref m0)]) hx hb dMo_weighAll_61 hl (by decide) rfl (fun ls hl => ?_)
                refine lv_aload_n hx hb dMo_weighAll_63 rfl (lv_at hl 4 rfl) ?_
                refine gf_Mo_37 Sf w.1 0 rfl rfl dMo_weighAll_64 ?_
                refine lv_iload_n hx hb dMo_weighAll_67 rfl (lv_at hl 2 rfl) ?_
                refine lv_iconst (v := (nI 1)) hx hb dMo_weighAll_68 (by decide) ?_
                refine lv_iload_n hx hb dMo_weighAll_69 rfl (lv_at hl 1 rfl) ?_
                refine z_shl1 hx hb (by omega) dMo_weighAll_70 ?_
                refine z_orN hx hb dMo_weighAll_71 ?_
                refine z_iald hx hb w.1 3 (k := (t2 ||| (2 ^ a))) rfl (or_lt (by omega) (pw_lt (by omega))) (by omega) dMo_weighAll_72 ?_
                refine lv_istore (lv' := [(5, .int (mI (F2 (t2 ||| (2 ^ a))))), (4, .int (mI (popc (mbF Li n a t2)))), (3, .int (nI a)), (2, .int (nI t2)), (1, .int (nI ((2 ^ n) - 1))), (0, .ref m0)]) hx hb dMo_weighAll_73 hl (by decide) rfl (fun ls hl => ?_)
                refine lv_iload hx hb dMo_weighAll_75 (lv_at hl 0 rfl) ?_
                refine lv_iload hx hb dMo_weighAll_77 (lv_at hl 1 rfl) ?_
                refine z_icmpleMM (tgt := 87) hx hb (by omega) (by omega) dMo_weighAll_79 (by decide) (fun c79 => ?_) (fun c79 => ?_)
                · skip
                  refine lv_iload hx hb dMo_weighAll_87 (lv_at hl 1 rfl) ?_
                  refine lv_istore (lv' := [(4, .int (mI (popc (mbF Li n a t2)))), (5, .int (mI (F2 (t2 ||| (2 ^ a))))), (3, .int (nI a)), (2, .int (nI t2)), (1, .int (nI ((2 ^ n) - 1))), (0, .ref m0)]) hx hb dMo_weighAll_89 hl (by decide) rfl (fun ls hl => ?_)
                  refine lv_aload_n hx hb dMo_weighAll_91 rfl (lv_at hl 5 rfl) ?_
                  refine gf_Mo_37 Sf w.1 0 rfl rfl dMo_weighAll_92 ?_
                  refine lv_iload_n hx hb dMo_weighAll_95 rfl (lv_at hl 3 rfl) ?_
                  refine lv_iload hx hb dMo_weighAll_96 (lv_at hl 0 rfl) ?_
                  refine lv_aload_n hx hb dMo_weighAll_98 rfl (lv_at hl 5 rfl) ?_
                  refine gf_Mo_37 Sf w.1 0 rfl rfl dMo_weighAll_99 ?_
                  refine lv_iload_n hx hb dMo_weighAll_102 rfl (lv_at hl 3 rfl) ?_
                  refine z_iald hx hb w.1 3 (k := t2) rfl (by omega) (by omega) dMo_weighAll_103 ?_
                  refine z_icmpgeMM (tgt := 112) hx hb (by omega) (by omega) dMo_weighAll_104 (by decide) (fun c104 => ?_) (fun c104 => ?_)
                  · skip
                    refine lv_aload_n hx hb dMo_weighAll_112 rfl (lv_at hl 5 rfl) ?_
                    refine gf_Mo_37 Sf w.1 0 rfl rfl dMo_weighAll_113 ?_
                    refine lv_iload_n hx hb dMo_weighAll_116 rfl (lv_at hl 3 rfl) ?_
                    refine z_iald hx hb w.1 3 (k := t2) rfl (by omega) (by omega) dMo_weighAll_117 ?_
                    refine z_iastM hx hb w 3 (k := t2) rfl (by omega) (by omega) (ws' := [(m0, zO 7 [.int (nI n), .ref av, .ref ab, .ref apl, .int (nI stt), .int (nI nf), .ref ase, .ref aco, .ref aen, .int (nI mem), .int (nI kd), .int (nI sl), .ref aor, .ref aba, .int (nI fi), .ref ali, .ref ale, .ref ach, .ref ast, .ref atw, .ref ats, .int (nI tp), .int (nI th)]), (av, zI G 12 (fun j => nI (V j))), (ali, zI G 12 (fun j => nI (Li j))), (ale, zI G 4096 (fun j => mI ((va_up F2 t2 (F2 t2)) j))), (ach, zL G 4096 (fun j => mL (Ch j)))]) rfl dMo_weighAll_118 (fun H locs w => ?_)
                    refine z_iinc (d := 1) (lv' := [(3, .int (nI (a + 1))), (4, .int (mI (popc (mbF Li n a t2)))), (5, .int (mI (F2 (t2 ||| (2 ^ a))))), (2, .int (nI t2)), (1, .int (nI ((2 ^ n) - 1))), (0, .ref m0)]) hx hb dMo_weighAll_119 hl (k := 2) rfl (by decide) (by decide) rfl (fun ls hl => ?_)
                    refine lv_goto (tgt := 34) hx hb dMo_weighAll_122 (by decide) ?_
                    refine ih34 (a + 1) (va_up F2 t2 (F2 t2)) ?_ ?_ ?_ _ _ w ls (lv_sub hl [0, 3, 4, 5] rfl)
                    · omega
                    · first | (rw [lwS_o c47]; exact hF2) | (rw [upup hF2, lwS_i c47]; congr 1; omega)
                    · omega
                  · skip
                    refine lv_iload hx hb dMo_weighAll_107 (lv_at hl 0 rfl) ?_
                    refine lv_goto (tgt := 118) hx hb dMo_weighAll_109 (by decide) ?_
                    refine z_iastM hx hb w 3 (k := t2) rfl (by omega) (by omega) (ws' := [(m0, zO 7 [.int (nI n), .ref av, .ref ab, .ref apl, .int (nI stt), .int (nI nf), .ref ase, .ref aco, .ref aen, .int (nI mem), .int (nI kd), .int (nI sl), .ref aor, .ref aba, .int (nI fi), .ref ali, .ref ale, .ref ach, .ref ast, .ref atw, .ref ats, .int (nI tp), .int (nI th)]), (av, zI G 12 (fun j => nI (V j))), (ali, zI G 12 (fun j => nI (Li j))), (ale, zI G 4096 (fun j => mI ((va_up F2 t2 (popc (mbF Li n a t2))) j))), (ach, zL G 4096 (fun j => mL (Ch j)))]) rfl dMo_weighAll_118 (fun H locs w => ?_)
                    refine z_iinc (d := 1) (lv' := [(3, .int (nI (a + 1))), (4, .int (mI (popc (mbF Li n a t2)))), (5, .int (mI (F2 (t2 ||| (2 ^ a))))), (2, .int (nI t2)), (1, .int (nI ((2 ^ n) - 1))), (0, .ref m0)]) hx hb dMo_weighAll_119 hl (k := 2) rfl (by decide) (by decide) rfl (fun ls hl => ?_)
                    refine lv_goto (tgt := 34) hx hb dMo_weighAll_122 (by decide) ?_
                    refine ih34 (a + 1) (va_up F2 t2 (popc (mbF Li n a t2))) ?_ ?_ ?_ _ _ w ls (lv_sub hl [0, 3, 4, 5] rfl)
                    · omega
                    · first | (rw [lwS_o c47]; exact hF2) | (rw [upup hF2, lwS_i c47]; congr 1; omega)
                    · omega
                · skip
                  refine lv_iload hx hb dMo_weighAll_82 (lv_at hl 0 rfl) ?_
                  refine lv_goto (tgt := 89) hx hb dMo_weighAll_84 (by decide) ?_
                  refine lv_istore (lv' := [(4, .int (mI (F2 (t2 ||| (2 ^ a))))), (5, .int (mI (F2 (t2 ||| (2 ^ a))))), (3, .int (nI a)), (2, .int (nI t2)), (1, .int (nI ((2 ^ n) - 1))), (0, .ref m0)]) hx hb dMo_weighAll_89 hl (by decide) rfl (fun ls hl => ?_)
                  refine lv_aload_n hx hb dMo_weighAll_91 rfl (lv_at hl 5 rfl) ?_
                  refine gf_Mo_37 Sf w.1 0 rfl rfl dMo_weighAll_92 ?_
                  refine lv_iload_n hx hb dMo_weighAll_95 rfl (lv_at hl 3 rfl) ?_
                  refine lv_iload hx hb dMo_weighAll_96 (lv_at hl 0 rfl) ?_
                  refine lv_aload_n hx hb dMo_weighAll_98 rfl (lv_at hl 5 rfl) ?_
                  refine gf_Mo_37 Sf w.1 0 rfl rfl dMo_weighAll_99 ?_
                  refine lv_iload_n hx hb dMo_weighAll_102 rfl (lv_at hl 3 rfl) ?_
                  refine z_iald hx hb w.1 3 (k := t2) rfl (by omega) (by omega) dMo_weighAll_103 ?_
                  refine z_icmpgeMM (tgt := 112) hx hb (by omega) (by omega) dMo_weighAll_104 (by decide) (fun c104 => ?_) (fun c104 => ?_)
                  · skip
                    refine lv_aload_n hx hb dMo_weighAll_112 rfl (lv_at hl 5 rfl) ?_
                    refine gf_Mo_37 Sf w.1 0 rfl rfl dMo_weighAll_113 ?_
                    refine lv_iload_n hx hb dMo_weighAll_116 rfl (lv_at hl 3 rfl) ?_
                    refine z_iald hx hb w.1 3 (k := t2) rfl (by omega) (by omega) dMo_weighAll_117 ?_
                    refine z_iastM hx hb w 3 (k := t2) rfl (by omega) (by omega) (ws' := [(m0, zO 7 [.int (nI n), .ref av, .ref ab, .ref apl, .int (nI stt), .int (nI nf), .ref ase, .ref aco, .ref aen, .int (nI mem), .int (nI kd), .int (nI sl), .ref aor, .ref aba, .int (nI fi), .ref ali, .ref ale, .ref ach, .ref ast, .ref atw, .ref ats, .int (nI tp), .int (nI th)]), (av, zI G 12 (fun j => nI (V j))), (ali, zI G 12 (fun j => nI (Li j))), (ale, zI G 4096 (fun j => mI ((va_up F2 t2 (F2 t2)) j))), (ach, zL G 4096 (fun j => mL (Ch j)))]) rfl dMo_weighAll_118 (fun H locs w => ?_)
                    refine z_iinc (d := 1) (lv' := [(3, .int (nI (a + 1))), (4, .int (mI (F2 (t2 ||| (2 ^ a))))), (5, .int (mI (F2 (t2 ||| (2 ^ a))))), (2, .int (nI t2)), (1, .int (nI ((2 ^ n) - 1))), (0, .ref m0)]) hx hb dMo_weighAll_119 hl (k := 2) rfl (by decide) (by decide) rfl (fun ls hl => ?_)
                    refine lv_goto (tgt := 34) hx hb dMo_weighAll_122 (by decide) ?_
                    refine ih34 (a + 1) (va_up F2 t2 (F2 t2)) ?_ ?_ ?_ _ _ w ls (lv_sub hl [0, 3, 4, 5] rfl)
                    · omega
                    · first | (rw [lwS_o c47]; exact hF2) | (rw [upup hF2, lwS_i c47]; congr 1; omega)
                    · omega
                  · skip
                    refine lv_iload hx hb dMo_weighAll_107 (lv_at hl 0 rfl) ?_
                    refine lv_goto (tgt := 118) hx hb dMo_weighAll_109 (by decide) ?_
                    refine z_iastM hx hb w 3 (k := t2) rfl (by omega) (by omega) (ws' := [(m0, zO 7 [.int (nI n), .ref av, .ref ab, .ref apl, .int (nI stt), .int (nI nf), .ref ase, .ref aco, .ref aen, .int (nI mem), .int (nI kd), .int (nI sl), .ref aor, .ref aba, .int (nI fi), .ref ali, .ref ale, .ref ach, .ref ast, .ref atw, .ref ats, .int (nI tp), .int (nI th)]), (av, zI G 12 (fun j => nI (V j))), (ali, zI G 12 (fun j => nI (Li j))), (ale, zI G 4096 (fun j => mI ((va_up F2 t2 (F2 (t2 ||| (2 ^ a)))) j))), (ach, zL G 4096 (fun j => mL (Ch j)))]) rfl dMo_weighAll_118 (fun H locs w => ?_)
                    refine z_iinc (d := 1) (lv' := [(3, .int (nI (a + 1))), (4, .int (mI (F2 (t2 ||| (2 ^ a))))), (5, .int (mI (F2 (t2 ||| (2 ^ a))))), (2, .int (nI t2)), (1, .int (nI ((2 ^ n) - 1))), (0, .ref m0)]) hx hb dMo_weighAll_119 hl (k := 2) rfl (by decide) (by decide) rfl (fun ls hl => ?_)
                    refine lv_goto (tgt := 34) hx hb dMo_weighAll_122 (by decide) ?_
                    refine ih34 (a + 1) (va_up F2 t2 (F2 (t2 ||| (2 ^ a)))) ?_ ?_ ?_ _ _ w ls (lv_sub hl [0, 3, 4, 5] rfl)
                    · omega
                    · first | (rw [lwS_o c47]; exact hF2) | (rw [upup hF2, lwS_i c47]; congr 1; omega)
                    · omega
        refine L34 ((n - 0) + 1) 0 (va_up F1 t2 101) ?_ ?_ ?_ _ _ w ls (lv_sub hl [0, 1, 2, 3] rfl)
        · omega
        · rfl
        · exact Nat.lt_succ_self _
  refine L20 ((((2 ^ n) - 1)) + 1) ((2 ^ n) - 1) (va_up Le ((2 ^ n) - 1) 0) ?_ ?_ ?_ _ _ w ls (lv_sub hl [0, 1, 2] rfl)
  · omega
  · rw [Nat.sub_self]; rfl
  · exact Nat.lt_succ_self _
