def rm_Mo_bagOf : Room := { frames := 0, cells := 0, slots := 0, locals := 0 }
set_option maxHeartbeats 4000000 in
set_option maxRecDepth 100000 in
theorem c_Mo_bagOf (l : Launch) (G : zG) (m0 av ab apl ase aco aen aor aba ali ale ach ast atw ats : Nat) (n stt nf mem kd sl fi tp th : Nat) (Li : Nat → Nat) (x o : Nat) (hn : n ≤ 12) (hx0 : x < n) (hLi : ∀ i, Li i < 4096) (ho : o < 4096) : Met l yMo_bagOf (.code yMo_bagOf cMo_bagOf 9 (some .int) :: zT) rm_Mo_bagOf (zPr G [.ref m0, .int (nI x), .int (nI o)] [(m0, zO 7 [.int (nI n), .ref av, .ref ab, .ref apl, .int (nI stt), .int (nI nf), .ref ase, .ref aco, .ref aen, .int (nI mem), .int (nI kd), .int (nI sl), .ref aor, .ref aba, .int (nI fi), .ref ali, .ref ale, .ref ach, .ref ast, .ref atw, .ref ats, .int (nI tp), .int (nI th)]), (ali, zI G 12 (fun j => nI (Li j)))]) (k2_QcV (.int (nI (mbF Li n x o)))) 0 0 (fun _ => False) := by
  refine z_metRi (by decide) (Nat.le_of_ble_eq_true rfl) (fun p e s m args below meth c ls Q Sf r hl hret => ?_)
  have Sf : CallFix p m c cMo_bagOf 9 s args zT RMo := Sf
  have hx := Sf.1
  have hb := Sf.2.1
  have hown := Sf.2.2.2.1
  have hts := Sf.2.2.2.2
  have hl : lv_has ls 9 [(0, .ref m0), (1, .int (nI x)), (2, .int (nI o))] := hl
  refine lv_iconst (v := (nI 1)) hx hb dMo_bagOf_0 (by decide) ?_
  refine lv_iload_n hx hb dMo_bagOf_1 rfl (lv_at hl 1 rfl) ?_
  refine z_shl1 hx hb (by omega) dMo_bagOf_2 ?_
  refine lv_istore_n (lv' := [(3, .int (nI (2 ^ x))), (0, .ref m0), (1, .int (nI x)), (2, .int (nI o))]) hx hb dMo_bagOf_3 rfl hl (by decide) rfl (fun ls hl => ?_)
  refine lv_iconst (v := (nI 1)) hx hb dMo_bagOf_4 (by decide) ?_
  refine lv_iload_n hx hb dMo_bagOf_5 rfl (lv_at hl 2 rfl) ?_
  refine z_shl1 hx hb (by omega) dMo_bagOf_6 ?_
  refine lv_istore (lv' := [(4, .int (nI (2 ^ x))), (3, .int (nI (2 ^ x))), (0, .ref m0), (1, .int (nI x)), (2, .int (nI o))]) hx hb dMo_bagOf_7 hl (by decide) rfl (fun ls hl => ?_)
  refine lv_iconst (v := (nI 1)) hx hb dMo_bagOf_9 (by decide) ?_
  refine lv_istore (lv' := [(5, .int (nI 1)), (4, .int (nI (2 ^ x))), (3, .int (nI (2 ^ x))), (0, .ref m0), (1, .int (nI x)), (2, .int (nI o))]) hx hb dMo_bagOf_10 hl (by decide) rfl (fun ls hl => ?_)
  have L12 : ∀ (fu12 : Nat) (k sn mo : Nat), (sn < 4096) → (mo ≤ 1) → (mo = 1 → 4096 ≤ k + sn) → (mo = 1 → bgX Li n x o k sn = bgX Li n x o 4096 (2 ^ x)) → (mo = 0 → sn = bgX Li n x o 4096 (2 ^ x)) → (4096 - sn + mo) < fu12 → ∀ (ls : Array Slot), lv_has ls 9 [(5, .int (nI mo)), (4, .int (nI sn)), (3, .int (nI (2 ^ x))), (0, .ref m0), (1, .int (nI x)), (2, .int (nI o))] → W p l e rm_Mo_bagOf s m args below meth c s.heap [] 0 0 Q (F0 m 12 ls []) := by
    intro fu12
    induction fu12 with
    | zero =>
      intro k sn mo hsn hmo hk h1 h0 hm12
      exact absurd hm12 (Nat.not_lt_zero _)
    | succ fu12 ih12 =>
      intro k sn mo hsn hmo hk h1 h0 hm12 ls hl
      refine lv_iload hx hb dMo_bagOf_12 (lv_at hl 0 rfl) ?_
      refine z_ifeqN (tgt := 116) hx hb (by omega) dMo_bagOf_14 (by decide) (fun c14 => ?_) (fun c14 => ?_)
      · skip
        refine lv_iload_n hx hb dMo_bagOf_116 rfl (lv_at hl 2 rfl) ?_
        refine lv_iload hx hb dMo_bagOf_117 (lv_at hl 1 rfl) ?_
        refine lv_iload_n hx hb dMo_bagOf_119 rfl (lv_at hl 5 rfl) ?_
        refine lv_iconst (v := (-1)) hx hb dMo_bagOf_120 (by decide) ?_
        refine lv_ixor hx hb dMo_bagOf_121 ?_
        refine z_andC hx hb dMo_bagOf_122 ?_
        refine z_orN hx hb dMo_bagOf_123 ?_
        refine lv_istore_n (lv' := [(3, .int (nI ((2 ^ x) ||| (sdf sn o)))), (5, .int (nI mo)), (4, .int (nI sn)), (0, .ref m0), (1, .int (nI x)), (2, .int (nI o))]) hx hb dMo_bagOf_124 rfl hl (by decide) rfl (fun ls hl => ?_)
        refine lv_iload_n hx hb dMo_bagOf_125 rfl (lv_at hl 0 rfl) ?_
        exact hret _ _ _ dMo_bagOf_126 (by rw [h0 c14]; rfl)
      · skip
        refine lv_iload hx hb dMo_bagOf_17 (lv_at hl 1 rfl) ?_
        refine lv_istore (lv' := [(6, .int (nI sn)), (5, .int (nI mo)), (4, .int (nI sn)), (3, .int (nI (2 ^ x))), (0, .ref m0), (1, .int (nI x)), (2, .int (nI o))]) hx hb dMo_bagOf_19 hl (by decide) rfl (fun ls hl => ?_)
        refine lv_iconst (v := (nI 0)) hx hb dMo_bagOf_21 (by decide) ?_
        refine lv_istore (lv' := [(7, .int (nI 0)), (6, .int (nI sn)), (5, .int (nI mo)), (4, .int (nI sn)), (3, .int (nI (2 ^ x))), (0, .ref m0), (1, .int (nI x)), (2, .int (nI o))]) hx hb dMo_bagOf_22 hl (by decide) rfl (fun ls hl => ?_)
        have L24 : ∀ (fu24 : Nat) (b nx : Nat), (b ≤ n) → (nx = bgN Li x o sn b) → (n - b) < fu24 → ∀ (ls : Array Slot), lv_has ls 9 [(7, .int (nI b)), (6, .int (nI nx)), (5, .int (nI mo)), (4, .int (nI sn)), (3, .int (nI (2 ^ x))), (0, .ref m0), (1, .int (nI x)), (2, .int (nI o))] → W p l e rm_Mo_bagOf s m args below meth c s.heap [] 0 0 Q (F0 m 24 ls []) := by
          intro fu24
          induction fu24 with
          | zero =>
            intro b nx hb0 hnx hm24
            exact absurd hm24 (Nat.not_lt_zero _)
          | succ fu24 ih24 =>
            intro b nx hb0 hnx hm24 ls hl
            refine lv_iload hx hb dMo_bagOf_24 (lv_at hl 0 rfl) ?_
            refine lv_aload_n hx hb dMo_bagOf_26 rfl (lv_at hl 5 rfl) ?_
            refine gf_Mo_68 Sf r 0 rfl rfl dMo_bagOf_27 ?_
            refine z_icmpge (tgt := 95) hx hb (by omega) (by omega) dMo_bagOf_30 (by decide) (fun c30 => ?_) (fun c30 => ?_)
            · skip
              have hbn : b = n := by omega
              have hnx2 : nx = bgN Li x o sn n := by rw [hnx, hbn]
              have hge : sn ≤ nx := by rw [hnx]; exact bgN_ge b
              have hnl : nx < 4096 := by rw [hnx]; exact bgN_lt hLi hsn b
              have hk1 := hk (by omega)
              obtain ⟨k2, rfl⟩ : ∃ k2, k = k2 + 1 := ⟨k - 1, by omega⟩
              have h11 := h1 (by omega)
              refine lv_iload hx hb dMo_bagOf_95 (lv_at hl 1 rfl) ?_
              refine lv_iload hx hb dMo_bagOf_97 (lv_at hl 3 rfl) ?_
              refine z_icmpeq (tgt := 106) hx hb (by omega) (by omega) dMo_bagOf_99 (by decide) (fun c99 => ?_) (fun c99 => ?_)
              · skip
                refine lv_iconst (v := (nI 0)) hx hb dMo_bagOf_106 (by decide) ?_
                refine lv_istore (lv' := [(5, .int (nI 0)), (7, .int (nI b)), (6, .int (nI nx)), (4, .int (nI sn)), (3, .int (nI (2 ^ x))), (0, .ref m0), (1, .int (nI x)), (2, .int (nI o))]) hx hb dMo_bagOf_107 hl (by decide) rfl (fun ls hl => ?_)
                refine lv_iload hx hb dMo_bagOf_109 (lv_at hl 2 rfl) ?_
                refine lv_istore (lv' := [(4, .int (nI nx)), (5, .int (nI 0)), (7, .int (nI b)), (6, .int (nI nx)), (3, .int (nI (2 ^ x))), (0, .ref m0), (1, .int (nI x)), (2, .int (nI o))]) hx hb dMo_bagOf_111 hl (by decide) rfl (fun ls hl => ?_)
                refine lv_goto (tgt := 12) hx hb dMo_bagOf_113 (by decide) ?_
                refine ih12 k2 nx 0 ?_ ?_ ?_ ?_ ?_ ?_ ls (lv_sub hl [1, 0, 4, 5, 6, 7] rfl)
                · rw [hnx]; exact bgN_lt hLi hsn b
                · omega
                · intro q; first | exact absurd q (by decide) | omega
                · intro q; first | exact absurd q (by decide) | (rw [← h11, bgX_n (by rw [← hnx2]; exact c99), ← hnx2])
                · intro q; first | exact absurd q (by decide) | (rw [← h11, bgX_e (by rw [← hnx2]; exact c99)]; exact c99)
                · omega
              · skip
                refine lv_iconst (v := (nI 1)) hx hb dMo_bagOf_102 (by decide) ?_
                refine lv_goto (tgt := 107) hx hb dMo_bagOf_103 (by decide) ?_
                refine lv_istore (lv' := [(5, .int (nI 1)), (7, .int (nI b)), (6, .int (nI nx)), (4, .int (nI sn)), (3, .int (nI (2 ^ x))), (0, .ref m0), (1, .int (nI x)), (2, .int (nI o))]) hx hb dMo_bagOf_107 hl (by decide) rfl (fun ls hl => ?_)
                refine lv_iload hx hb dMo_bagOf_109 (lv_at hl 2 rfl) ?_
                refine lv_istore (lv' := [(4, .int (nI nx)), (5, .int (nI 1)), (7, .int (nI b)), (6, .int (nI nx)), (3, .int (nI (2 ^ x))), (0, .ref m0), (1, .int (nI x)), (2, .int (nI o))]) hx hb dMo_bagOf_111 hl (by decide) rfl (fun ls hl => ?_)
                refine lv_goto (tgt := 12) hx hb dMo_bagOf_113 (by decide) ?_
                refine ih12 k2 nx 1 ?_ ?_ ?_ ?_ ?_ ?_ ls (lv_sub hl [1, 0, 4, 5, 6, 7] rfl)
                · rw [hnx]; exact bgN_lt hLi hsn b
                · omega
                · intro q; first | exact absurd q (by decide) | omega
                · intro q; first | exact absurd q (by decide) | (rw [← h11, bgX_n (by rw [← hnx2]; exact c99), ← hnx2])
                · intro q; first | exact absurd q (by decide) | (rw [← h11, bgX_e (by rw [← hnx2]; exact c99)]; exact c99)
                · omega
            · skip
              refine lv_iload hx hb dMo_bagOf_33 (lv_at hl 3 rfl) ?_
              refine lv_iload hx hb dMo_bagOf_35 (lv_at hl 0 rfl) ?_
              refine z_shrN hx hb (by omega) (by omega) dMo_bagOf_37 ?_
              refine lv_iconst (v := (nI 1)) hx hb dMo_bagOf_38 (by decide) ?_
              refine z_and1 hx hb dMo_bagOf_39 ?_
              refine lv_iconst (v := (nI 1)) hx hb dMo_bagOf_40 (by decide) ?_
              refine z_icmpneSB (tgt := 64) hx hb dMo_bagOf_41 (by decide) (fun c41 => ?_) (fun c41 => ?_)
              · skip
                refine lv_iconst (v := (nI 0)) hx hb dMo_bagOf_64 (by decide) ?_
                refine lv_istore (lv' := [(8, .int (nI 0)), (7, .int (nI b)), (6, .int (nI nx)), (5, .int (nI mo)), (4, .int (nI sn)), (3, .int (nI (2 ^ x))), (0, .ref m0), (1, .int (nI x)), (2, .int (nI o))]) hx hb dMo_bagOf_65 hl (by decide) rfl (fun ls hl => ?_)
                refine lv_iload hx hb dMo_bagOf_67 (lv_at hl 0 rfl) ?_
                refine z_ifeqN (tgt := 85) hx hb (by decide) dMo_bagOf_69 (by decide) (fun _ => ?_) (fun q => absurd q (by decide))
                refine lv_iload hx hb dMo_bagOf_85 (lv_at hl 2 rfl) ?_
                refine lv_istore (lv' := [(6, .int (nI nx)), (8, .int (nI 0)), (7, .int (nI b)), (5, .int (nI mo)), (4, .int (nI sn)), (3, .int (nI (2 ^ x))), (0, .ref m0), (1, .int (nI x)), (2, .int (nI o))]) hx hb dMo_bagOf_87 hl (by decide) rfl (fun ls hl => ?_)
                refine z_iinc (d := 1) (lv' := [(7, .int (nI (b + 1))), (6, .int (nI nx)), (8, .int (nI 0)), (5, .int (nI mo)), (4, .int (nI sn)), (3, .int (nI (2 ^ x))), (0, .ref m0), (1, .int (nI x)), (2, .int (nI o))]) hx hb dMo_bagOf_89 hl (k := 2) rfl (by decide) (by decide) rfl (fun ls hl => ?_)
                refine lv_goto (tgt := 24) hx hb dMo_bagOf_92 (by decide) ?_
                refine ih24 (b + 1) _ ?_ ?_ ?_ ls (lv_sub hl [0, 1, 3, 4, 5, 6, 7, 8] rfl)
                · omega
                · first | (rw [bgN_t ⟨c41, Or.inl c47⟩, hnx]; done) | (rw [bgN_t ⟨c41, Or.inr c57⟩, hnx]; done) | (rw [bgN_f (fun h => by rw [c41] at h; exact absurd h.1 (by decide)), hnx]; done) | (rw [bgN_f (fun h => h.2.elim c47 (fun q => by rw [c57] at q; exact absurd q (by decide))), hnx])
                · omega
              · skip
                refine lv_iload hx hb dMo_bagOf_44 (lv_at hl 0 rfl) ?_
                refine lv_iload_n hx hb dMo_bagOf_46 rfl (lv_at hl 6 rfl) ?_
                refine z_icmpeq (tgt := 60) hx hb (by omega) (by omega) dMo_bagOf_47 (by decide) (fun c47 => ?_) (fun c47 => ?_)
                · skip
                  refine lv_iconst (v := (nI 1)) hx hb dMo_bagOf_60 (by decide) ?_
                  refine lv_goto (tgt := 65) hx hb dMo_bagOf_61 (by decide) ?_
                  refine lv_istore (lv' := [(8, .int (nI 1)), (7, .int (nI b)), (6, .int (nI nx)), (5, .int (nI mo)), (4, .int (nI sn)), (3, .int (nI (2 ^ x))), (0, .ref m0), (1, .int (nI x)), (2, .int (nI o))]) hx hb dMo_bagOf_65 hl (by decide) rfl (fun ls hl => ?_)
                  refine lv_iload hx hb dMo_bagOf_67 (lv_at hl 0 rfl) ?_
                  refine z_ifeqN (tgt := 85) hx hb (by decide) dMo_bagOf_69 (by decide) (fun q => absurd q (by decide)) (fun _ => ?_)
                  refine lv_iload hx hb dMo_bagOf_72 (lv_at hl 2 rfl) ?_
                  refine lv_aload_n hx hb dMo_bagOf_74 rfl (lv_at hl 6 rfl) ?_
                  refine gf_Mo_34 Sf r 0 rfl rfl dMo_bagOf_75 ?_
                  refine lv_iload hx hb dMo_bagOf_78 (lv_at hl 1 rfl) ?_
                  refine z_iald hx hb r 1 (k := b) rfl (by omega) (by omega) dMo_bagOf_80 ?_
                  refine z_orN hx hb dMo_bagOf_81 ?_
                  refine lv_goto (tgt := 87) hx hb dMo_bagOf_82 (by decide) ?_
                  refine lv_istore (lv' := [(6, .int (nI (nx ||| (Li b)))), (8, .int (nI 1)), (7, .int (nI b)), (5, .int (nI mo)), (4, .int (nI sn)), (3, .int (nI (2 ^ x))), (0, .ref m0), (1, .int (nI x)), (2, .int (nI o))]) hx hb dMo_bagOf_87 hl (by decide) rfl (fun ls hl => ?_)
                  refine z_iinc (d := 1) (lv' := [(7, .int (nI (b + 1))), (6, .int (nI (nx ||| (Li b)))), (8, .int (nI 1)), (5, .int (nI mo)), (4, .int (nI sn)), (3, .int (nI (2 ^ x))), (0, .ref m0), (1, .int (nI x)), (2, .int (nI o))]) hx hb dMo_bagOf_89 hl (k := 2) rfl (by decide) (by decide) rfl (fun ls hl => ?_)
                  refine lv_goto (tgt := 24) hx hb dMo_bagOf_92 (by decide) ?_
                  refine ih24 (b + 1) (nx ||| (Li b)) ?_ ?_ ?_ ls (lv_sub hl [0, 1, 3, 4, 5, 6, 7, 8] rfl)
                  · omega
                  · first | (rw [bgN_t ⟨c41, Or.inl c47⟩, hnx]; done) | (rw [bgN_t ⟨c41, Or.inr c57⟩, hnx]; done) | (rw [bgN_f (fun h => by rw [c41] at h; exact absurd h.1 (by decide)), hnx]; done) | (rw [bgN_f (fun h => h.2.elim c47 (fun q => by rw [c57] at q; exact absurd q (by decide))), hnx])
                  · omega
                · skip
                  refine lv_iload_n hx hb dMo_bagOf_50 rfl (lv_at hl 7 rfl) ?_
                  refine lv_iload hx hb dMo_bagOf_51 (lv_at hl 0 rfl) ?_
                  refine z_shrN hx hb (by omega) (by omega) dMo_bagOf_53 ?_
                  refine lv_iconst (v := (nI 1)) hx hb dMo_bagOf_54 (by decide) ?_
                  refine z_and1 hx hb dMo_bagOf_55 ?_
                  refine lv_iconst (v := (nI 1)) hx hb dMo_bagOf_56 (by decide) ?_
                  refine z_icmpneSB (tgt := 64) hx hb dMo_bagOf_57 (by decide) (fun c57 => ?_) (fun c57 => ?_)
                  · skip
                    refine lv_iconst (v := (nI 0)) hx hb dMo_bagOf_64 (by decide) ?_
                    refine lv_istore (lv' := [(8, .int (nI 0)), (7, .int (nI b)), (6, .int (nI nx)), (5, .int (nI mo)), (4, .int (nI sn)), (3, .int (nI (2 ^ x))), (0, .ref m0), (1, .int (nI x)), (2, .int (nI o))]) hx hb dMo_bagOf_65 hl (by decide) rfl (fun ls hl => ?_)
                    refine lv_iload hx hb dMo_bagOf_67 (lv_at hl 0 rfl) ?_
                    refine z_ifeqN (tgt := 85) hx hb (by decide) dMo_bagOf_69 (by decide) (fun _ => ?_) (fun q => absurd q (by decide))
                    refine lv_iload hx hb dMo_bagOf_85 (lv_at hl 2 rfl) ?_
                    refine lv_istore (lv' := [(6, .int (nI nx)), (8, .int (nI 0)), (7, .int (nI b)), (5, .int (nI mo)), (4, .int (nI sn)), (3, .int (nI (2 ^ x))), (0, .ref m0), (1, .int (nI x)), (2, .int (nI o))]) hx hb dMo_bagOf_87 hl (by decide) rfl (fun ls hl => ?_)
                    refine z_iinc (d := 1) (lv' := [(7, .int (nI (b + 1))), (6, .int (nI nx)), (8, .int (nI 0)), (5, .int (nI mo)), (4, .int (nI sn)), (3, .int (nI (2 ^ x))), (0, .ref m0), (1, .int (nI x)), (2, .int (nI o))]) hx hb dMo_bagOf_89 hl (k := 2) rfl (by decide) (by decide) rfl (fun ls hl => ?_)
                    refine lv_goto (tgt := 24) hx hb dMo_bagOf_92 (by decide) ?_
                    refine ih24 (b + 1) _ ?_ ?_ ?_ ls (lv_sub hl [0, 1, 3, 4, 5, 6, 7, 8] rfl)
                    · omega
                    · first | (rw [bgN_t ⟨c41, Or.inl c47⟩, hnx]; done) | (rw [bgN_t ⟨c41, Or.inr c57⟩, hnx]; done) | (rw [bgN_f (fun h => by rw [c41] at h; exact absurd h.1 (by decide)), hnx]; done) | (rw [bgN_f (fun h => h.2.elim c47 (fun q => by rw [c57] at q; exact absurd q (by decide))), hnx])
                    · omega
                  · skip
                    refine lv_iconst (v := (nI 1)) hx hb dMo_bagOf_60 (by decide) ?_
                    refine lv_goto (tgt := 65) hx hb dMo_bagOf_61 (by decide) ?_
                    refine lv_istore (lv' := [(8, .int (nI 1)), (7, .int (nI b)), (6, .int (nI nx)), (5, .int (nI mo)), (4, .int (nI sn)), (3, .int (nI (2 ^ x))), (0, .ref m0), (1, .int (nI x)), (2, .int (nI o))]) hx hb dMo_bagOf_65 hl (by decide) rfl (fun ls hl => ?_)
                    refine lv_iload hx hb dMo_bagOf_67 (lv_at hl 0 rfl) ?_
                    refine z_ifeqN (tgt := 85) hx hb (by decide) dMo_bagOf_69 (by decide) (fun q => absurd q (by decide)) (fun _ => ?_)
                    refine lv_iload hx hb dMo_bagOf_72 (lv_at hl 2 rfl) ?_
                    refine lv_aload_n hx hb dMo_bagOf_74 rfl (lv_at hl 6 rfl) ?_
                    refine gf_Mo_34 Sf r 0 rfl rfl dMo_bagOf_75 ?_
                    refine lv_iload hx hb dMo_bagOf_78 (lv_at hl 1 rfl) ?_
                    refine z_iald hx hb r 1 (k := b) rfl (by omega) (by omega) dMo_bagOf_80 ?_
                    refine z_orN hx hb dMo_bagOf_81 ?_
                    refine lv_goto (tgt := 87) hx hb dMo_bagOf_82 (by decide) ?_
                    refine lv_istore (lv' := [(6, .int (nI (nx ||| (Li b)))), (8, .int (nI 1)), (7, .int (nI b)), (5, .int (nI mo)), (4, .int (nI sn)), (3, .int (nI (2 ^ x))), (0, .ref m0), (1, .int (nI x)), (2, .int (nI o))]) hx hb dMo_bagOf_87 hl (by decide) rfl (fun ls hl => ?_)
                    refine z_iinc (d := 1) (lv' := [(7, .int (nI (b + 1))), (6, .int (nI (nx ||| (Li b)))), (8, .int (nI 1)), (5, .int (nI mo)), (4, .int (nI sn)), (3, .int (nI (2 ^ x))), (0, .ref m0), (1, .int (nI x)), (2, .int (nI o))]) hx hb dMo_bagOf_89 hl (k := 2) rfl (by decide) (by decide) rfl (fun ls hl => ?_)
                    refine lv_goto (tgt := 24) hx hb dMo_bagOf_92 (by decide) ?_
                    refine ih24 (b + 1) (nx ||| (Li b)) ?_ ?_ ?_ ls (lv_sub hl [0, 1, 3, 4, 5, 6, 7, 8] rfl)
                    · omega
                    · first | (rw [bgN_t ⟨c41, Or.inl c47⟩, hnx]; done) | (rw [bgN_t ⟨c41, Or.inr c57⟩, hnx]; done) | (rw [bgN_f (fun h => by rw [c41] at h; exact absurd h.1 (by decide)), hnx]; done) | (rw [bgN_f (fun h => h.2.elim c47 (fun q => by rw [c57] at q; exact absurd q (by decide))), hnx])
                    · omega
        refine L24 ((n - 0) + 1) 0 sn ?_ ?_ ?_ ls (lv_sub hl [0, 1, 2, 3, 4, 5, 6, 7] rfl)
        · omega
        · rfl
        · exact Nat.lt_succ_self _
  refine L12 ((4096 - (2 ^ x) + 1) + 1) 4096 (2 ^ x) 1 ?_ ?_ ?_ ?_ ?_ ?_ ls (lv_sub hl [0, 1, 2, 3, 4, 5] rfl)
  · exact pw_lt (by omega)
  · omega
  · intro _; exact Nat.le_add_right _ _
  · intro _; rfl
  · intro q; exact absurd q (by decide)
  · exact Nat.lt_succ_self _

def rm_Mo_price : Room := { frames := 1, cells := 0, slots := 0, locals := 50 }
set_option maxHeartbeats 4000000 in
set_option maxRecDepth 100000 in
theorem c_Mo_price (l : Launch) (G : zG) (m0 av ab apl ase aco aen aor aba ali ale ach ast atw ats : Nat) (n stt nf mem kd sl fi tp th : Nat) (V Li Le Ch : Nat → Nat) (x o : Nat) (hn : n ≤ 12) (hx0 : x < n) (hV : ∀ j, V j ≤ 4) (hLi : ∀ i, Li i < 4096) (ho : o < 4096) (hLe : Le 0 ≤ 101) (hCh : Ch (o ||| 2 ^ x) < 2 ^ 60) : Met l yMo_price (.code yMo_price cMo_price 6 (some .long) :: zT) rm_Mo_price (zPr G [.ref m0, .int (nI x), .int (nI o)] [(m0, zO 7 [.int (nI n), .ref av, .ref ab, .ref apl, .int (nI stt), .int (nI nf), .ref ase, .ref aco, .ref aen, .int (nI mem), .int (nI kd), .int (nI sl), .ref aor, .ref aba, .int (nI fi), .ref ali, .ref ale, .ref ach, .ref ast, .ref atw, .ref ats, .int (nI tp), .int (nI th)]), (av, zI G 12 (fun j => nI (V j))), (ali, zI G 12 (fun j => nI (Li j))), (ale, zI G 4096 (fun j => mI (Le j))), (ach, zL G 4096 (fun j => mL (Ch j)))]) (k2_QcV (.long (mL (pcF V Li n (Le 0) Ch x o)))) 0 0 (fun _ => False) := by
  refine z_metRl (by decide) (Nat.le_of_ble_eq_true rfl) (fun p e s m args below meth c ls Q Sf r hl hret => ?_)
  have Sf : CallFix p m c cMo_price 6 s args zT RMo := Sf
  have hx := Sf.1
  have hb := Sf.2.1
  have hown := Sf.2.2.2.1
  have hts := Sf.2.2.2.2
  have hl : lv_has ls 6 [(0, .ref m0), (1, .int (nI x)), (2, .int (nI o))] := hl
  refine lv_aload_n hx hb dMo_price_0 rfl (lv_at hl 0 rfl) ?_
  refine lv_iload_n hx hb dMo_price_1 rfl (lv_at hl 1 rfl) ?_
  refine lv_iload_n hx hb dMo_price_2 rfl (lv_at hl 2 rfl) ?_
  refine z_rV (As := [.int (nI x), .int (nI o)]) (rest := []) Sf (c_Mo_bagOf l G m0 av ab apl ase aco aen aor aba ali ale ach ast atw ats n stt nf mem kd sl fi tp th Li x o (by first | assumption | omega) (by first | assumption | omega) (by first | assumption | omega) (by first | assumption | omega)) mv_Mo_119 ⟨rfl, rfl⟩ ⟨Nat.le_of_ble_eq_true rfl, Nat.le_of_ble_eq_true rfl⟩ r [0, 2] rfl 0 rfl rfl rfl rfl hl.1 rfl (Nat.le_of_ble_eq_true rfl) dMo_price_3 ⟨Nat.le_of_ble_eq_true rfl, Nat.le_of_ble_eq_true rfl⟩ ?_
  refine lv_istore_n (lv' := [(3, .int (nI (mbF Li n x o))), (0, .ref m0), (1, .int (nI x)), (2, .int (nI o))]) hx hb dMo_price_6 rfl hl (by decide) rfl (fun ls hl => ?_)
  have hbg : mbF Li n x o < 4096 := mbF_lt hLi (by omega)
  have hp := popc_le _ hbg
  have hc := cellsF_b hV (mbF Li n x o) hn
  refine lv_aload_n hx hb dMo_price_7 rfl (lv_at hl 1 rfl) ?_
  refine gf_Mo_40 Sf r 0 rfl rfl dMo_price_8 ?_
  refine lv_iload_n hx hb dMo_price_11 rfl (lv_at hl 3 rfl) ?_
  refine lv_iconst (v := (nI 1)) hx hb dMo_price_12 (by decide) ?_
  refine lv_iload_n hx hb dMo_price_13 rfl (lv_at hl 2 rfl) ?_
  refine z_shl1 hx hb (by omega) dMo_price_14 ?_
  refine z_orN hx hb dMo_price_15 ?_
  refine z_lald hx hb r 4 (k := (o ||| (2 ^ x))) rfl (or_lt ho (pw_lt (by omega))) (by omega) dMo_price_16 ?_
  refine lv_lstore (lv' := [(4, .long (mL (Ch (o ||| (2 ^ x))))), (3, .int (nI (mbF Li n x o))), (0, .ref m0), (1, .int (nI x)), (2, .int (nI o))]) hx hb dMo_price_17 hl (by decide) rfl (fun ls hl => ?_)
  refine lv_iload_n hx hb dMo_price_19 rfl (lv_at hl 1 rfl) ?_
  refine z_rS (As := [.int (nI (mbF Li n x o))]) (rest := []) Sf (c_Mo_many l G (mbF Li n x o) hbg) mv_Mo_86 ⟨rfl, rfl⟩ ⟨Nat.le_of_ble_eq_true rfl, Nat.le_of_ble_eq_true rfl⟩ r [] rfl rfl hl.1 rfl (Nat.le_of_ble_eq_true rfl) dMo_price_20 ⟨Nat.le_of_ble_eq_true rfl, Nat.le_of_ble_eq_true rfl⟩ ?_
  refine lv_iconst (v := (nI 1)) hx hb dMo_price_23 (by decide) ?_
  refine z_subM hx hb dMo_price_24 ?_
  refine lv_aload_n hx hb dMo_price_25 rfl (lv_at hl 2 rfl) ?_
  refine gf_Mo_37 Sf r 0 rfl rfl dMo_price_26 ?_
  refine lv_iconst (v := (nI 0)) hx hb dMo_price_29 (by decide) ?_
  refine z_iald hx hb r 3 (k := 0) rfl (by omega) (by omega) dMo_price_30 ?_
  refine z_icmpgtMM (tgt := 41) hx hb (by omega) (by omega) dMo_price_31 (by decide) (fun c31 => ?_) (fun c31 => ?_)
  · skip
    refine lv_ldc2 (v := (mL 0)) hx hb hown (hts _ kc_Mo_107) dMo_price_41 ?_
    refine lv_goto (tgt := 56) hx hb dMo_price_44 (by decide) ?_
    exact hret _ _ _ dMo_price_56 (by first | (rw [pcF_n (Or.inl c31)]; done) | (rw [pcF_n (Or.inr (by omega))]; done))
  · skip
    refine lv_lload hx hb dMo_price_34 (lv_at hl 0 rfl) ?_
    refine lv_lconst (v := lN 0) hx hb dMo_price_36 (by decide) ?_
    refine W.lcmp hx hb dMo_price_37 ?_
    refine z_lcgeMN (tgt := 47) hx hb (by omega) (by omega) dMo_price_38 (by decide) (fun c38 => ?_) (fun c38 => ?_)
    · skip
      refine lv_aload_n hx hb dMo_price_47 rfl (lv_at hl 2 rfl) ?_
      refine lv_iload_n hx hb dMo_price_48 rfl (lv_at hl 1 rfl) ?_
      refine z_rV (As := [.int (nI (mbF Li n x o))]) (rest := []) Sf (c_Mo_cells l G m0 av ab apl ase aco aen aor aba ali ale ach ast atw ats n stt nf mem kd sl fi tp th V (mbF Li n x o) (by first | assumption | omega) hbg) mv_Mo_97 ⟨rfl, rfl⟩ ⟨Nat.le_of_ble_eq_true rfl, Nat.le_of_ble_eq_true rfl⟩ r [0, 1] rfl 0 rfl rfl rfl rfl hl.1 rfl (Nat.le_of_ble_eq_true rfl) dMo_price_49 ⟨Nat.le_of_ble_eq_true rfl, Nat.le_of_ble_eq_true rfl⟩ ?_
      refine lv_i2l (v := lN (cellsF V (mbF Li n x o) n)) hx hb dMo_price_52 (nI_l (by omega)) ?_
      refine lv_lload hx hb dMo_price_53 (lv_at hl 0 rfl) ?_
      refine z_laddNM hx hb dMo_price_55 ?_
      exact hret _ _ _ dMo_price_56 (by rw [pcF_y (fun h => h.elim (fun q => by omega) (fun q => by omega))])
    · skip
      refine lv_ldc2 (v := (mL 0)) hx hb hown (hts _ kc_Mo_107) dMo_price_41 ?_
      refine lv_goto (tgt := 56) hx hb dMo_price_44 (by decide) ?_
      exact hret _ _ _ dMo_price_56 (by first | (rw [pcF_n (Or.inl c31)]; done) | (rw [pcF_n (Or.inr (by omega))]; done))
