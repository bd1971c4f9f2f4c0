set_option maxHeartbeats 8000000 in
set_option maxRecDepth 100000 in
theorem law_loop {p : Program} {l : Launch} {e : Env} {s : State} {m : MethodId} {below : List Frame} {meth : Method} {c : Code} {G : zG} {b L : Nat} {xs : Nat → Int32} {o g av an fz bn bl sq pl na ba sr fo ce le w0 ab ch pr bs rw0 rs m0 avm abm aplm asem acom aenm aorm abam alim alem achm astm atwm atsm : Nat} (hx : p.tables.exec = Jvm.exec) (hb : c.code = code) (hr : meth.sig.returnType = ret) (hlocks : meth.locks = false) (Sf : CallFix p m c code 4 s #[Value.ref b] zT RLa) (hX : va_X b L xs s s.heap) (hbl : b < s.heap.size) (hLb : L ≤ 2048) {n nf stt mem ca kd wd fi ci mx kn kn2 cn rk sup sm gs gc kw kdm slm fim tpm thm : Nat} {V Pl Nb Od Bg Fo Lc Le Bd C Pr BS RW RS Bm Se Co En Om Gm Li Lm Cm Sx Tw Ts : Nat → Nat} {fB fL : Nat → Option Nat} {X : Nat → fR} (hI0 : INV n nf stt mem V Pl Nb (kd, wd, fi, ci, mx, Od, Bg) kn (kn2, cn, Lc, Le, Fo) ca fB fL X (BS, sm, sup, RW, RS, rk) kw Bd Se Co En Bm (Li, Om, Gm, kdm, fim, slm) Lm Cm Tw Ts tpm) {H : Heap} {locs : List Loc} (w : zw G (fun q : Nat => s.heap.size ≤ q) s ([(o, zO 6 [.ref g, .ref fz, .ref sq, .ref w0, .int (nI mem)]), (g, zO 2 [.ref av, .ref an, .int (nI n), .int (nI stt)]), (av, zI G 12 (fun j => nI (V j))), (an, zI G 12 (fun j => nI (Nb j))), (fz, zO 1 [.ref g, .ref bn, .ref bl, .int (nI nf), .int (nI ca)]), (bn, zF G 16 fB), (bl, zF G 13 fL), (sq, zO 4 [.ref g, .ref sr, .ref pl, .ref na, .ref ba, .int (nI kd), .int (mI wd), .int (nI fi), .int (nI ci), .int (nI mx), .int (nI kn)]), (pl, zI G 12 (fun j => mI (Pl j))), (na, zI G 12 (fun j => nI (Od j))), (ba, zI G 12 (fun j => nI (Bg j))), (sr, zO 3 [.ref g, .ref fo, .ref ce, .ref le, .int (nI cn), .int (nI kn2)]), (fo, zI G 12 (fun j => nI (Fo j))), (ce, zI G 4096 (fun j => nI (Lc j))), (le, zI G 4096 (fun j => mI (Le j))), (w0, zO 5 [.ref g, .ref fz, .ref ab, .ref ch, .ref pr, .ref bs, .ref rw0, .ref rs, .int (nI rk), .int (nI sup), .long (lN sm), .long (lN gs), .int (nI gc), .int (nI kw)]), (ab, zI G 12 (fun j => mI (Bd j))), (ch, zI G 12 (fun j => nI (C j))), (pr, zL G 48 (fun j => lN (Pr j))), (bs, zL G 65536 (fun j => lN (BS j))), (rw0, zL G 24 (fun j => lN (RW j))), (rs, zI G 24 (fun j => nI (RS j))), (m0, zO 7 [.int (nI n), .ref avm, .ref abm, .ref aplm, .int (nI stt), .int (nI nf), .ref asem, .ref acom, .ref aenm, .int (nI mem), .int (nI kdm), .int (nI slm), .ref aorm, .ref abam, .int (nI fim), .ref alim, .ref alem, .ref achm, .ref astm, .ref atwm, .ref atsm, .int (nI tpm), .int (nI thm)]), (avm, zI G 12 (fun j => nI (V j))), (abm, zI G 12 (fun j => mI (Bm j))), (aplm, zI G 12 (fun j => mI (Pl j))), (asem, zI G 16 (fun j => nI (Se j))), (acom, zI G 16 (fun j => nI (Co j))), (aenm, zI G 4096 (fun j => nI (En j))), (aorm, zI G 12 (fun j => nI (Om j))), (abam, zI G 12 (fun j => nI (Gm j))), (alim, zI G 12 (fun j => nI (Li j))), (alem, zI G 4096 (fun j => mI (Lm j))), (achm, zL G 4096 (fun j => mL (Cm j))), (astm, zI G 12 (fun j => nI (Sx j))), (atwm, zL G 25 (fun j => lN (Tw j))), (atsm, zI G 25 (fun j => nI (Ts j)))] ++ pool G X 16) H locs) {ls : Array Slot} (hl : lv_has ls 4 [(0, .ref b), (1, .ref o), (2, .ref m0), (3, .int (nI 0))]) : W p l e room_1 s m #[Value.ref b] below meth c H locs 117 94919 (lw_Z below #[Value.ref b] s) (F0 m 18 ls []) := by
  have hbA : ¬ (fun q : Nat => s.heap.size ≤ q) b := Nat.not_le.mpr hbl
  have hown := Sf.2.2.2.1
  have hts := Sf.2.2.2.2
  obtain ⟨A, hAd⟩ : ∃ A : Nat → Prop, A = (fun q : Nat => s.heap.size ≤ q) := ⟨_, rfl⟩
  rw [← hAd] at w hbA
  obtain ⟨args, har⟩ : ∃ a : Array Value, a = #[Value.ref b] := ⟨_, rfl⟩
  rw [← har] at Sf hts ⊢
  obtain ⟨Q, hQ⟩ : ∃ Q : State → Prop, Q = lw_Z below args s := ⟨_, rfl⟩
  rw [← hQ]
  have L18 : ∀ (fu18 : Nat) (i : Nat) (n nf stt mem ca kd wd fi ci mx kn kn2 cn rk sup sm gs gc kw kdm slm fim tpm thm : Nat) (V Pl Nb Od Bg Fo Lc Le Bd C Pr BS RW RS Bm Se Co En Om Gm Li Lm Cm Sx Tw Ts : Nat → Nat) (fB fL : Nat → Option Nat) (X : Nat → fR), (i ≤ L + 3) → (INV n nf stt mem V Pl Nb (kd, wd, fi, ci, mx, Od, Bg) kn (kn2, cn, Lc, Le, Fo) ca fB fL X (BS, sm, sup, RW, RS, rk) kw Bd Se Co En Bm (Li, Om, Gm, kdm, fim, slm) Lm Cm Tw Ts tpm) → (L + 4 - i) < fu18 → ∀ (H : Heap) (locs : List Loc), zw G A s ([(o, zO 6 [.ref g, .ref fz, .ref sq, .ref w0, .int (nI mem)]), (g, zO 2 [.ref av, .ref an, .int (nI n), .int (nI stt)]), (av, zI G 12 (fun j => nI (V j))), (an, zI G 12 (fun j => nI (Nb j))), (fz, zO 1 [.ref g, .ref bn, .ref bl, .int (nI nf), .int (nI ca)]), (bn, zF G 16 fB), (bl, zF G 13 fL), (sq, zO 4 [.ref g, .ref sr, .ref pl, .ref na, .ref ba, .int (nI kd), .int (mI wd), .int (nI fi), .int (nI ci), .int (nI mx), .int (nI kn)]), (pl, zI G 12 (fun j => mI (Pl j))), (na, zI G 12 (fun j => nI (Od j))), (ba, zI G 12 (fun j => nI (Bg j))), (sr, zO 3 [.ref g, .ref fo, .ref ce, .ref le, .int (nI cn), .int (nI kn2)]), (fo, zI G 12 (fun j => nI (Fo j))), (ce, zI G 4096 (fun j => nI (Lc j))), (le, zI G 4096 (fun j => mI (Le j))), (w0, zO 5 [.ref g, .ref fz, .ref ab, .ref ch, .ref pr, .ref bs, .ref rw0, .ref rs, .int (nI rk), .int (nI sup), .long (lN sm), .long (lN gs), .int (nI gc), .int (nI kw)]), (ab, zI G 12 (fun j => mI (Bd j))), (ch, zI G 12 (fun j => nI (C j))), (pr, zL G 48 (fun j => lN (Pr j))), (bs, zL G 65536 (fun j => lN (BS j))), (rw0, zL G 24 (fun j => lN (RW j))), (rs, zI G 24 (fun j => nI (RS j))), (m0, zO 7 [.int (nI n), .ref avm, .ref abm, .ref aplm, .int (nI stt), .int (nI nf), .ref asem, .ref acom, .ref aenm, .int (nI mem), .int (nI kdm), .int (nI slm), .ref aorm, .ref abam, .int (nI fim), .ref alim, .ref alem, .ref achm, .ref astm, .ref atwm, .ref atsm, .int (nI tpm), .int (nI thm)]), (avm, zI G 12 (fun j => nI (V j))), (abm, zI G 12 (fun j => mI (Bm j))), (aplm, zI G 12 (fun j => mI (Pl j))), (asem, zI G 16 (fun j => nI (Se j))), (acom, zI G 16 (fun j => nI (Co j))), (aenm, zI G 4096 (fun j => nI (En j))), (aorm, zI G 12 (fun j => nI (Om j))), (abam, zI G 12 (fun j => nI (Gm j))), (alim, zI G 12 (fun j => nI (Li j))), (alem, zI G 4096 (fun j => mI (Lm j))), (achm, zL G 4096 (fun j => mL (Cm j))), (astm, zI G 12 (fun j => nI (Sx j))), (atwm, zL G 25 (fun j => lN (Tw j))), (atsm, zI G 25 (fun j => nI (Ts j)))] ++ pool G X 16) H locs → ∀ (ls : Array Slot), lv_has ls 4 [(0, .ref b), (1, .ref o), (2, .ref m0), (3, .int (nI i))] → W p l e room_1 s m args below meth c H locs 117 94919 Q (F0 m 18 ls []) := by
    intro fu18
    induction fu18 with
    | zero =>
      intro i n nf stt mem ca kd wd fi ci mx kn kn2 cn rk sup sm gs gc kw kdm slm fim tpm thm V Pl Nb Od Bg Fo Lc Le Bd C Pr BS RW RS Bm Se Co En Om Gm Li Lm Cm Sx Tw Ts fB fL X hi hI hm18
      exact absurd hm18 (Nat.not_lt_zero _)
    | succ fu18 ih18 =>
      intro i n nf stt mem ca kd wd fi ci mx kn kn2 cn rk sup sm gs gc kw kdm slm fim tpm thm V Pl Nb Od Bg Fo Lc Le Bd C Pr BS RW RS Bm Se Co En Om Gm Li Lm Cm Sx Tw Ts fB fL X hi hI hm18 H locs w ls hl
      refine lv_iload_n hx hb dLa_law_18 rfl (lv_at hl 3 rfl) ?_
      refine lv_aload_n hx hb dLa_law_19 rfl (lv_at hl 0 rfl) ?_
      refine z_slen hx hb hX hbl hbA w dLa_law_20 ?_
      refine lv_iconst (v := (nI 4)) hx hb dLa_law_21 (by decide) ?_
      refine lv_isub hx hb dLa_law_22 ?_
      refine lv_icmp_gt (tgt := 729) hx hb dLa_law_23 (by decide) (fun c23 => ?_) (fun c23 => ?_)
      · skip
        have hie := (i4_lt hLb (by omega)).mp c23
        refine lv_iconst (v := (nI 1)) hx hb dLa_law_729 (by decide) ?_
        rw [hQ, har]
        refine va_forget (fun q hq => by have := w.2.2.1.2.2 q hq; rw [hAd] at this; exact this) ?_
        refine W.widen (k := 600000) (n := 7302250) (by decide) (by decide) ?_
        refine W.eq (g2 := F0 m 730 ls [.int 1]) rfl ?_
        exact lw_ret hx hb hr hlocks dLa_law_730
      · skip
        have hi4 : i + 4 ≤ L := Nat.le_of_not_lt (fun z => c23 ((i4_lt hLb (by omega)).mpr z))
        have L723 : ∀ (n nf stt mem ca kd wd fi ci mx kn kn2 cn rk sup sm gs gc kw kdm slm fim tpm thm : Nat) (V Pl Nb Od Bg Fo Lc Le Bd C Pr BS RW RS Bm Se Co En Om Gm Li Lm Cm Sx Tw Ts : Nat → Nat) (fB fL : Nat → Option Nat) (X : Nat → fR), (INV n nf stt mem V Pl Nb (kd, wd, fi, ci, mx, Od, Bg) kn (kn2, cn, Lc, Le, Fo) ca fB fL X (BS, sm, sup, RW, RS, rk) kw Bd Se Co En Bm (Li, Om, Gm, kdm, fim, slm) Lm Cm Tw Ts tpm) → ∀ (H : Heap) (locs : List Loc), zw G A s ([(o, zO 6 [.ref g, .ref fz, .ref sq, .ref w0, .int (nI mem)]), (g, zO 2 [.ref av, .ref an, .int (nI n), .int (nI stt)]), (av, zI G 12 (fun j => nI (V j))), (an, zI G 12 (fun j => nI (Nb j))), (fz, zO 1 [.ref g, .ref bn, .ref bl, .int (nI nf), .int (nI ca)]), (bn, zF G 16 fB), (bl, zF G 13 fL), (sq, zO 4 [.ref g, .ref sr, .ref pl, .ref na, .ref ba, .int (nI kd), .int (mI wd), .int (nI fi), .int (nI ci), .int (nI mx), .int (nI kn)]), (pl, zI G 12 (fun j => mI (Pl j))), (na, zI G 12 (fun j => nI (Od j))), (ba, zI G 12 (fun j => nI (Bg j))), (sr, zO 3 [.ref g, .ref fo, .ref ce, .ref le, .int (nI cn), .int (nI kn2)]), (fo, zI G 12 (fun j => nI (Fo j))), (ce, zI G 4096 (fun j => nI (Lc j))), (le, zI G 4096 (fun j => mI (Le j))), (w0, zO 5 [.ref g, .ref fz, .ref ab, .ref ch, .ref pr, .ref bs, .ref rw0, .ref rs, .int (nI rk), .int (nI sup), .long (lN sm), .long (lN gs), .int (nI gc), .int (nI kw)]), (ab, zI G 12 (fun j => mI (Bd j))), (ch, zI G 12 (fun j => nI (C j))), (pr, zL G 48 (fun j => lN (Pr j))), (bs, zL G 65536 (fun j => lN (BS j))), (rw0, zL G 24 (fun j => lN (RW j))), (rs, zI G 24 (fun j => nI (RS j))), (m0, zO 7 [.int (nI n), .ref avm, .ref abm, .ref aplm, .int (nI stt), .int (nI nf), .ref asem, .ref acom, .ref aenm, .int (nI mem), .int (nI kdm), .int (nI slm), .ref aorm, .ref abam, .int (nI fim), .ref alim, .ref alem, .ref achm, .ref astm, .ref atwm, .ref atsm, .int (nI tpm), .int (nI thm)]), (avm, zI G 12 (fun j => nI (V j))), (abm, zI G 12 (fun j => mI (Bm j))), (aplm, zI G 12 (fun j => mI (Pl j))), (asem, zI G 16 (fun j => nI (Se j))), (acom, zI G 16 (fun j => nI (Co j))), (aenm, zI G 4096 (fun j => nI (En j))), (aorm, zI G 12 (fun j => nI (Om j))), (abam, zI G 12 (fun j => nI (Gm j))), (alim, zI G 12 (fun j => nI (Li j))), (alem, zI G 4096 (fun j => mI (Lm j))), (achm, zL G 4096 (fun j => mL (Cm j))), (astm, zI G 12 (fun j => nI (Sx j))), (atwm, zL G 25 (fun j => lN (Tw j))), (atsm, zI G 25 (fun j => nI (Ts j)))] ++ pool G X 16) H locs → ∀ (ls : Array Slot), lv_has ls 4 [(0, .ref b), (1, .ref o), (2, .ref m0), (3, .int (nI i))] → W p l e room_1 s m args below meth c H locs 117 94919 Q (F0 m 723 ls []) := by
          intro n nf stt mem ca kd wd fi ci mx kn kn2 cn rk sup sm gs gc kw kdm slm fim tpm thm V Pl Nb Od Bg Fo Lc Le Bd C Pr BS RW RS Bm Se Co En Om Gm Li Lm Cm Sx Tw Ts fB fL X hI H locs w ls hl
          refine z_iinc (d := 4) (lv' := [(3, .int (nI (i + 4))), (0, .ref b), (1, .ref o), (2, .ref m0)]) hx hb dLa_law_723 hl (k := 3) rfl (by decide) (by decide) rfl (fun ls hl => ?_)
          refine lv_goto (tgt := 18) hx hb dLa_law_726 (by decide) ?_
          refine ih18 (i + 4) _ _ _ _ _ _ _ _ _ _ _ _ _ _ _ _ _ _ _ _ _ _ _ _ V Pl Nb Od Bg Fo Lc Le Bd C Pr BS RW RS Bm Se Co En Om Gm Li Lm Cm Sx Tw Ts fB fL _ ?_ ?_ ?_ _ _ w ls (lv_sub hl [1, 2, 3, 0] rfl)
          · omega
          · exact hI
          · omega
        refine lv_aload_n hx hb dLa_law_26 rfl (lv_at hl 0 rfl) ?_
        refine lv_iload_n hx hb dLa_law_27 rfl (lv_at hl 3 rfl) ?_
        refine z_sld hx hb hX hbl hbA w (k := i) (by omega) hLb dLa_law_28 ?_
        refine lv_bipush (v := nI 31) hx hb dLa_law_29 (by decide) ?_
        refine lv_iand hx hb dLa_law_31 ?_
        generalize xs i &&& nI 31 = zv
        rcases (show (zv.toInt < ((0 : Nat) : Int) ∨ ((19 : Nat) : Int) < zv.toInt) ∨ zv = nI 0 ∨ zv = nI 1 ∨ zv = nI 2 ∨ zv = nI 3 ∨ zv = nI 4 ∨ zv = nI 5 ∨ zv = nI 6 ∨ zv = nI 7 ∨ zv = nI 8 ∨ zv = nI 9 ∨ zv = nI 10 ∨ zv = nI 11 ∨ zv = nI 12 ∨ zv = nI 13 ∨ zv = nI 14 ∨ zv = nI 15 ∨ zv = nI 16 ∨ zv = nI 17 ∨ zv = nI 18 ∨ zv = nI 19 by
          rcases tb_out (x := zv) 0 19 (by decide) with h | ⟨q, h1, h2, rfl⟩
          · exact Or.inl h
          · right
            rcases (show q = 0 ∨ q = 1 ∨ q = 2 ∨ q = 3 ∨ q = 4 ∨ q = 5 ∨ q = 6 ∨ q = 7 ∨ q = 8 ∨ q = 9 ∨ q = 10 ∨ q = 11 ∨ q = 12 ∨ q = 13 ∨ q = 14 ∨ q = 15 ∨ q = 16 ∨ q = 17 ∨ q = 18 ∨ q = 19 by omega) with rfl | rfl | rfl | rfl | rfl | rfl | rfl | rfl | rfl | rfl | rfl | rfl | rfl | rfl | rfl | rfl | rfl | rfl | rfl | rfl <;> simp) with hto | rfl | rfl | rfl | rfl | rfl | rfl | rfl | rfl | rfl | rfl | rfl | rfl | rfl | rfl | rfl | rfl | rfl | rfl | rfl | rfl
        · skip
          refine lv_tableOut (tgt := 723) hx hb dLa_law_32 hto (by decide) ?_
          refine L723 _ _ _ _ _ _ _ _ _ _ _ _ _ _ _ _ _ _ _ _ _ _ _ _ V Pl Nb Od Bg Fo Lc Le Bd C Pr BS RW RS Bm Se Co En Om Gm Li Lm Cm Sx Tw Ts fB fL _ ?_ _ _ w ls (lv_sub hl [0, 1, 2, 3] rfl)
          · exact hI
        · skip
          refine lv_tableIn (off := 96) (tgt := 128) hx hb dLa_law_32 (by decide) (by decide) (by decide) (by decide) ?_
          exact lwc_0 hx hb Sf hX hbl hbA hLb L723 hi4 hI w hl
        · skip
          refine lv_tableIn (off := 119) (tgt := 151) hx hb dLa_law_32 (by decide) (by decide) (by decide) (by decide) ?_
          exact lwc_1 hx hb Sf hX hbl hbA hLb L723 hi4 hI w hl
        · skip
          refine lv_tableIn (off := 142) (tgt := 174) hx hb dLa_law_32 (by decide) (by decide) (by decide) (by decide) ?_
          exact lwc_2 hx hb Sf hX hbl hbA hLb L723 hi4 hI w hl
        · skip
          refine lv_tableIn (off := 185) (tgt := 217) hx hb dLa_law_32 (by decide) (by decide) (by decide) (by decide) ?_
          exact lwc_3 hx hb Sf hX hbl hbA hLb L723 hi4 hI w hl
        · skip
          refine lv_tableIn (off := 218) (tgt := 250) hx hb dLa_law_32 (by decide) (by decide) (by decide) (by decide) ?_
          exact lwc_4 hx hb Sf hX hbl hbA hLb L723 hi4 hI w hl
        · skip
          refine lv_tableIn (off := 251) (tgt := 283) hx hb dLa_law_32 (by decide) (by decide) (by decide) (by decide) ?_
          exact lwc_5 hx hb Sf hX hbl hbA hLb L723 hi4 hI w hl
        · skip
          refine lv_tableIn (off := 274) (tgt := 306) hx hb dLa_law_32 (by decide) (by decide) (by decide) (by decide) ?_
          exact lwc_6 hx hb Sf hX hbl hbA hLb L723 hi4 hI w hl
        · skip
          refine lv_tableIn (off := 307) (tgt := 339) hx hb dLa_law_32 (by decide) (by decide) (by decide) (by decide) ?_
          exact lwc_7 hx hb Sf hX hbl hbA hLb L723 hi4 hI w hl
        · skip
          refine lv_tableIn (off := 330) (tgt := 362) hx hb dLa_law_32 (by decide) (by decide) (by decide) (by decide) ?_
          exact lwc_8 hx hb Sf hX hbl hbA hLb L723 hi4 hI w hl
        · skip
          refine lv_tableIn (off := 363) (tgt := 395) hx hb dLa_law_32 (by decide) (by decide) (by decide) (by decide) ?_
          exact lwc_9 hx hb Sf hX hbl hbA hLb L723 hi4 hI w hl
        · skip
          refine lv_tableIn (off := 386) (tgt := 418) hx hb dLa_law_32 (by decide) (by decide) (by decide) (by decide) ?_
          exact lwc_10 hx hb Sf hX hbl hbA hLb L723 hi4 hI w hl
        · skip
          refine lv_tableIn (off := 400) (tgt := 432) hx hb dLa_law_32 (by decide) (by decide) (by decide) (by decide) ?_
          exact lwc_11 hx hb Sf hX hbl hbA hLb L723 hi4 hI w hl
        · skip
          refine lv_tableIn (off := 444) (tgt := 476) hx hb dLa_law_32 (by decide) (by decide) (by decide) (by decide) ?_
          exact lwc_12 hx hb Sf hX hbl hbA hLb L723 hi4 hI w hl
        · skip
          refine lv_tableIn (off := 458) (tgt := 490) hx hb dLa_law_32 (by decide) (by decide) (by decide) (by decide) ?_
          exact lwc_13 hx hb Sf hX hbl hbA hLb L723 hi4 hI w hl
        · skip
          refine lv_tableIn (off := 481) (tgt := 513) hx hb dLa_law_32 (by decide) (by decide) (by decide) (by decide) ?_
          exact lwc_14 hx hb Sf hX hbl hbA hLb L723 hi4 hI w hl
        · skip
          refine lv_tableIn (off := 515) (tgt := 547) hx hb dLa_law_32 (by decide) (by decide) (by decide) (by decide) ?_
          exact lwc_15 hx hb Sf hX hbl hbA hLb L723 hi4 hI w hl
        · skip
          refine lv_tableIn (off := 528) (tgt := 560) hx hb dLa_law_32 (by decide) (by decide) (by decide) (by decide) ?_
          exact lwc_16 hx hb Sf hX hbl hbA hLb L723 hi4 hI w hl
        · skip
          refine lv_tableIn (off := 561) (tgt := 593) hx hb dLa_law_32 (by decide) (by decide) (by decide) (by decide) ?_
          exact lwc_17 hx hb Sf hX hbl hbA hLb L723 hi4 hI w hl
        · skip
          refine lv_tableIn (off := 624) (tgt := 656) hx hb dLa_law_32 (by decide) (by decide) (by decide) (by decide) ?_
          exact lwc_18 hx hb Sf hX hbl hbA hLb L723 hi4 hI w hl
        · skip
          refine lv_tableIn (off := 667) (tgt := 699) hx hb dLa_law_32 (by decide) (by decide) (by decide) (by decide) ?_
          exact lwc_19 hx hb Sf hX hbl hbA hLb L723 hi4 hI w hl
  refine L18 ((L + 4 - 0) + 1) 0 _ _ _ _ _ _ _ _ _ _ _ _ _ _ _ _ _ _ _ _ _ _ _ _ V Pl Nb Od Bg Fo Lc Le Bd C Pr BS RW RS Bm Se Co En Om Gm Li Lm Cm Sx Tw Ts fB fL _ ?_ ?_ ?_ _ _ w ls (lv_sub hl [0, 1, 2, 3] rfl)
  · omega
  · exact hI0
  · exact Nat.lt_succ_self _
