def rm_fillN : Room := { frames := 0, cells := 0, slots := 0, locals := 0 }
set_option maxHeartbeats 4000000 in
set_option maxRecDepth 100000 in
theorem c_fillN (l : Launch) (G : zG) (a L : Nat) (F : Nat → Nat) (v : Nat) (hL : L ≤ 65536) (sz : Nat) : Met l yJa_fill (.code yJa_fill cJa_fill 4 none :: zT) rm_fillN (zPw G [.ref a, .int (nI v)] [(a, zI G L (fun j => nI (F j)))] sz) (zQ (S := Unit) G (fun u => none) (fun u => [(a, zI G L (fun j => nI ((rowF F (fun _ => v) L) j)))]) (va_A [(a, zI G L (fun j => nI (F j)))] sz) (fun u => True)) 0 0 (va_A [(a, zI G L (fun j => nI (F j)))] sz) := by
  refine z_metWv (by decide) (Nat.le_of_ble_eq_true rfl) (fun p e s m args below meth c ls A Q Sf hnm w hl hret => ?_)
  obtain ⟨H, hH⟩ : ∃ H, H = s.heap := ⟨_, rfl⟩
  obtain ⟨locs, hlo⟩ : ∃ L : List Loc, L = [] := ⟨_, rfl⟩
  rw [← hH, ← hlo] at w
  rw [← hH, ← hlo]
  clear hH hlo
  have Sf : CallFix p m c cJa_fill 4 s args zT RJa := Sf
  have hx := Sf.1
  have hb := Sf.2.1
  have hown := Sf.2.2.2.1
  have hts := Sf.2.2.2.2
  have hl : lv_has ls 4 [(0, .ref a), (1, .int (nI v))] := hl
  refine lv_iconst (v := (nI 0)) hx hb dJa_fill_0 (by decide) ?_
  refine lv_istore_n (lv' := [(2, .int (nI 0)), (0, .ref a), (1, .int (nI v))]) hx hb dJa_fill_1 rfl hl (by decide) rfl (fun ls hl => ?_)
  refine lv_aload_n hx hb dJa_fill_2 rfl (lv_at hl 1 rfl) ?_
  refine z_ilen hx hb w.1 0 rfl dJa_fill_3 ?_
  refine lv_istore_n (lv' := [(3, .int (nI L)), (2, .int (nI 0)), (0, .ref a), (1, .int (nI v))]) hx hb dJa_fill_4 rfl hl (by decide) rfl (fun ls hl => ?_)
  have L5 : ∀ (fu5 : Nat) (i : Nat) (F1 : Nat → Nat), (i ≤ L) → (F1 = rowF F (fun _ => v) i) → (L - i) < fu5 → ∀ (H : Heap) (locs : List Loc), zw G A s [(a, zI G L (fun j => nI (F1 j)))] H locs → ∀ (ls : Array Slot), lv_has ls 4 [(3, .int (nI L)), (2, .int (nI i)), (0, .ref a), (1, .int (nI v))] → W p l e rm_fillN s m args below meth c H locs 0 0 Q (F0 m 5 ls []) := by
    intro fu5
    induction fu5 with
    | zero =>
      intro i F1 hi hF hm5
      exact absurd hm5 (Nat.not_lt_zero _)
    | succ fu5 ih5 =>
      intro i F1 hi hF hm5 H locs w ls hl
      refine lv_iload_n hx hb dJa_fill_5 rfl (lv_at hl 1 rfl) ?_
      refine lv_iload_n hx hb dJa_fill_6 rfl (lv_at hl 0 rfl) ?_
      refine z_icmpge (tgt := 20) hx hb (by omega) (by omega) dJa_fill_7 (by decide) (fun c7 => ?_) (fun c7 => ?_)
      · skip
        exact hret _ _ _ _ () _ w (by rw [hF, show i = L by omega]) (trivial) dJa_fill_20 rfl
      · skip
        refine lv_aload_n hx hb dJa_fill_10 rfl (lv_at hl 2 rfl) ?_
        refine lv_iload_n hx hb dJa_fill_11 rfl (lv_at hl 1 rfl) ?_
        refine lv_iload_n hx hb dJa_fill_12 rfl (lv_at hl 3 rfl) ?_
        refine z_iastN hx hb w 0 (k := i) rfl (by omega) (by omega) (ws' := [(a, zI G L (fun j => nI ((va_up F1 i v) j)))]) rfl dJa_fill_13 (fun H locs w => ?_)
        refine z_iinc (d := 1) (lv' := [(2, .int (nI (i + 1))), (3, .int (nI L)), (0, .ref a), (1, .int (nI v))]) hx hb dJa_fill_14 hl (k := 1) rfl (by decide) (by decide) rfl (fun ls hl => ?_)
        refine lv_goto (tgt := 5) hx hb dJa_fill_17 (by decide) ?_
        refine ih5 (i + 1) (va_up F1 i v) ?_ ?_ ?_ _ _ w ls (lv_sub hl [1, 0, 2, 3] rfl)
        · omega
        · rw [hF, ← rowF_s]
        · omega
  refine L5 ((L - 0) + 1) 0 F ?_ ?_ ?_ _ _ w ls (lv_sub hl [0, 1, 2, 3] rfl)
  · omega
  · exact (rowF_0 _ _).symm
  · exact Nat.lt_succ_self _

def rm_fillM : Room := { frames := 0, cells := 0, slots := 0, locals := 0 }
set_option maxHeartbeats 4000000 in
set_option maxRecDepth 100000 in
theorem c_fillM (l : Launch) (G : zG) (a L : Nat) (F : Nat → Nat) (v : Nat) (hL : L ≤ 65536) (sz : Nat) : Met l yJa_fill (.code yJa_fill cJa_fill 4 none :: zT) rm_fillM (zPw G [.ref a, .int (mI v)] [(a, zI G L (fun j => mI (F j)))] sz) (zQ (S := Unit) G (fun u => none) (fun u => [(a, zI G L (fun j => mI ((rowF F (fun _ => v) L) j)))]) (va_A [(a, zI G L (fun j => mI (F j)))] sz) (fun u => True)) 0 0 (va_A [(a, zI G L (fun j => mI (F j)))] sz) := by
  refine z_metWv (by decide) (Nat.le_of_ble_eq_true rfl) (fun p e s m args below meth c ls A Q Sf hnm w hl hret => ?_)
  obtain ⟨H, hH⟩ : ∃ H, H = s.heap := ⟨_, rfl⟩
  obtain ⟨locs, hlo⟩ : ∃ L : List Loc, L = [] := ⟨_, rfl⟩
  rw [← hH, ← hlo] at w
  rw [← hH, ← hlo]
  clear hH hlo
  have Sf : CallFix p m c cJa_fill 4 s args zT RJa := Sf
  have hx := Sf.1
  have hb := Sf.2.1
  have hown := Sf.2.2.2.1
  have hts := Sf.2.2.2.2
  have hl : lv_has ls 4 [(0, .ref a), (1, .int (mI v))] := hl
  refine lv_iconst (v := (nI 0)) hx hb dJa_fill_0 (by decide) ?_
  refine lv_istore_n (lv' := [(2, .int (nI 0)), (0, .ref a), (1, .int (mI v))]) hx hb dJa_fill_1 rfl hl (by decide) rfl (fun ls hl => ?_)
  refine lv_aload_n hx hb dJa_fill_2 rfl (lv_at hl 1 rfl) ?_
  refine z_ilen hx hb w.1 0 rfl dJa_fill_3 ?_
  refine lv_istore_n (lv' := [(3, .int (nI L)), (2, .int (nI 0)), (0, .ref a), (1, .int (mI v))]) hx hb dJa_fill_4 rfl hl (by decide) rfl (fun ls hl => ?_)
  have L5 : ∀ (fu5 : Nat) (i : Nat) (F1 : Nat → Nat), (i ≤ L) → (F1 = rowF F (fun _ => v) i) → (L - i) < fu5 → ∀ (H : Heap) (locs : List Loc), zw G A s [(a, zI G L (fun j => mI (F1 j)))] H locs → ∀ (ls : Array Slot), lv_has ls 4 [(3, .int (nI L)), (2, .int (nI i)), (0, .ref a), (1, .int (mI v))] → W p l e rm_fillM s m args below meth c H locs 0 0 Q (F0 m 5 ls []) := by
    intro fu5
    induction fu5 with
    | zero =>
      intro i F1 hi hF hm5
      exact absurd hm5 (Nat.not_lt_zero _)
    | succ fu5 ih5 =>
      intro i F1 hi hF hm5 H locs w ls hl
      refine lv_iload_n hx hb dJa_fill_5 rfl (lv_at hl 1 rfl) ?_
      refine lv_iload_n hx hb dJa_fill_6 rfl (lv_at hl 0 rfl) ?_
      refine z_icmpge (tgt := 20) hx hb (by omega) (by omega) dJa_fill_7 (by decide) (fun c7 => ?_) (fun c7 => ?_)
      · skip
        exact hret _ _ _ _ () _ w (by rw [hF, show i = L by omega]) (trivial) dJa_fill_20 rfl
      · skip
        refine lv_aload_n hx hb dJa_fill_10 rfl (lv_at hl 2 rfl) ?_
        refine lv_iload_n hx hb dJa_fill_11 rfl (lv_at hl 1 rfl) ?_
        refine lv_iload_n hx hb dJa_fill_12 rfl (lv_at hl 3 rfl) ?_
        refine z_iastM hx hb w 0 (k := i) rfl (by omega) (by omega) (ws' := [(a, zI G L (fun j => mI ((va_up F1 i v) j)))]) rfl dJa_fill_13 (fun H locs w => ?_)
        refine z_iinc (d := 1) (lv' := [(2, .int (nI (i + 1))), (3, .int (nI L)), (0, .ref a), (1, .int (mI v))]) hx hb dJa_fill_14 hl (k := 1) rfl (by decide) (by decide) rfl (fun ls hl => ?_)
        refine lv_goto (tgt := 5) hx hb dJa_fill_17 (by decide) ?_
        refine ih5 (i + 1) (va_up F1 i v) ?_ ?_ ?_ _ _ w ls (lv_sub hl [1, 0, 2, 3] rfl)
        · omega
        · rw [hF, ← rowF_s]
        · omega
  refine L5 ((L - 0) + 1) 0 F ?_ ?_ ?_ _ _ w ls (lv_sub hl [0, 1, 2, 3] rfl)
  · omega
  · exact (rowF_0 _ _).symm
  · exact Nat.lt_succ_self _
