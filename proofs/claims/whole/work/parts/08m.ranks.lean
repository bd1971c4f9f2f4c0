-- LEVEL 2, ranks: 24 places against 25
def rkR (c m : rkT) : Prop := c.2.2 = m.2.2 ∧ c.2.2 ≤ 24 ∧ ∀ j, j < c.2.2 → c.1 j = m.1 j ∧ c.2.1 j = m.2.1 j
theorem rkAt_cg {T U : Nat → Nat} {w : Nat} : ∀ p, (∀ j, j < p → T j = U j) → rkAt T w p = rkAt U w p
  | 0, _ => rfl
  | p + 1, h => by
    simp only [rkAt]
    rw [h p (by omega), rkAt_cg p (fun j hj => h j (by omega))]
theorem rk_step {c m : rkT} {w k : Nat} (h : rkR c m) : rkR (kpZ c.1 c.2.1 c.2.2 k w) (rkN w k m) := by
  obtain ⟨cw, cs, rk⟩ := c
  obtain ⟨mw, ms, tp⟩ := m
  obtain ⟨h1, h2, h3⟩ := h
  simp only at h1 h2 h3
  subst h1
  show rkR (kpZ cw cs rk k w) (rkN w k (mw, ms, rk))
  by_cases q : rk < 24
  · rw [kpZ_y (Or.inl q)]
    have hat : rkAt cw w rk = rkAt mw w rk := rkAt_cg rk (fun j hj => (h3 j hj).1)
    have hle := rkAt_le (T := mw) (w := w) rk
    unfold irZ rkN
    rw [show min rk 23 = rk by omega, hat]
    refine ⟨?_, ?_, fun j hj => ?_⟩
    · show min (rk + 1) 24 = if rk < 24 then rk + 1 else 24
      rw [if_pos q]; omega
    · show min (rk + 1) 24 ≤ 24
      omega
    · have hj : j < min (rk + 1) 24 := hj
      refine ⟨?_, ?_⟩
      · show rkSh cw rk (rkAt mw w rk) w j = rkSh mw rk (rkAt mw w rk) w j
        unfold rkSh va_up shP
        by_cases e : j = rkAt mw w rk
        · rw [if_pos e, if_pos e]
        · rw [if_neg e, if_neg e]
          by_cases z : rkAt mw w rk < j ∧ j ≤ rk
          · rw [if_pos z, if_pos z, (h3 (j - 1) (by omega)).1]
          · rw [if_neg z, if_neg z, (h3 j (by omega)).1]
      · show rkSh cs rk (rkAt mw w rk) k j = rkSh ms rk (rkAt mw w rk) k j
        unfold rkSh va_up shP
        by_cases e : j = rkAt mw w rk
        · rw [if_pos e, if_pos e]
        · rw [if_neg e, if_neg e]
          by_cases z : rkAt mw w rk < j ∧ j ≤ rk
          · rw [if_pos z, if_pos z, (h3 (j - 1) (by omega)).2]
          · rw [if_neg z, if_neg z, (h3 j (by omega)).2]
  · have e24 : rk = 24 := by omega
    subst e24
    by_cases hw : cw 23 < w
    · rw [kpZ_y (Or.inr hw)]
      have hm : mw 23 < w := by rw [← (h3 23 (by omega)).1]; exact hw
      have hat : rkAt cw w 23 = rkAt mw w 24 := by rw [rkAt_y hm]; exact rkAt_cg 23 (fun j hj => (h3 j (by omega)).1)
      have hle : rkAt mw w 24 ≤ 23 := by rw [← hat]; exact rkAt_le 23
      unfold irZ rkN
      rw [show min 24 23 = 23 by decide, hat]
      refine ⟨rfl, Nat.le_refl _, fun j hj => ?_⟩
      have hj : j < 24 := hj
      refine ⟨?_, ?_⟩
      · show rkSh cw 23 (rkAt mw w 24) w j = rkSh mw 24 (rkAt mw w 24) w j
        unfold rkSh va_up shP
        by_cases e : j = rkAt mw w 24
        · rw [if_pos e, if_pos e]
        · rw [if_neg e, if_neg e]
          by_cases z : rkAt mw w 24 < j
          · rw [if_pos (by omega), if_pos (by omega), (h3 (j - 1) (by omega)).1]
          · rw [if_neg (by omega), if_neg (by omega), (h3 j (by omega)).1]
      · show rkSh cs 23 (rkAt mw w 24) k j = rkSh ms 24 (rkAt mw w 24) k j
        unfold rkSh va_up shP
        by_cases e : j = rkAt mw w 24
        · rw [if_pos e, if_pos e]
        · rw [if_neg e, if_neg e]
          by_cases z : rkAt mw w 24 < j
          · rw [if_pos (by omega), if_pos (by omega), (h3 (j - 1) (by omega)).2]
          · rw [if_neg (by omega), if_neg (by omega), (h3 j (by omega)).2]
    · rw [kpZ_n (fun z => z.elim (fun z => q z) hw)]
      have hm : w ≤ mw 23 := by rw [← (h3 23 (by omega)).1]; omega
      unfold rkN
      rw [show rkAt mw w 24 = 24 from rkAt_n hm]
      refine ⟨rfl, Nat.le_refl _, fun j hj => ?_⟩
      have hj : j < 24 := hj
      refine ⟨?_, ?_⟩
      · show cw j = rkSh mw 24 24 w j
        unfold rkSh
        rw [va_up_ne _ _ (by omega), shP_tp, (h3 j hj).1]
      · show cs j = rkSh ms 24 24 k j
        unfold rkSh
        rw [va_up_ne _ _ (by omega), shP_tp, (h3 j hj).2]
/-- the walk's ranks are the reference's -/
theorem rk_all {W : Nat → Nat} {m0 : rkT} {t0 : wT} (h : rkR t0.2.2.2 m0) : ∀ N, rkR (foV (fun s t => if W s = 0 then t else kpW s (W s) t) N t0).2.2.2 (rkF W m0 N)
  | 0 => h
  | N + 1 => by
    have ih := rk_all (W := W) h N
    show rkR (if W N = 0 then _ else _ : wT).2.2.2 _
    by_cases q : W N = 0
    · rw [if_pos q, rkF_0 q]; exact ih
    · rw [if_neg q, rkF_1 q]; exact rk_step ih
theorem sm_all {W : Nat → Nat} {t0 : wT} : ∀ N, (foV (fun s t => if W s = 0 then t else kpW s (W s) t) N t0).2.1 = t0.2.1 + sumF W N
  | 0 => rfl
  | N + 1 => by
    have ih := sm_all (W := W) (t0 := t0) N
    show (if W N = 0 then _ else _ : wT).2.1 = t0.2.1 + (sumF W N + W N)
    by_cases q : W N = 0
    · rw [if_pos q, ih, q]; rfl
    · rw [if_neg q]
      show (foV _ N t0).2.1 + W N = _
      rw [ih]; omega
theorem bs_all {W : Nat → Nat} {t0 : wT} : ∀ N s, (foV (fun s t => if W s = 0 then t else kpW s (W s) t) N t0).1 s = if s < N ∧ W s ≠ 0 then W s else t0.1 s
  | 0, s => by
    rw [if_neg (by omega)]; rfl
  | N + 1, s => by
    have ih := bs_all (W := W) (t0 := t0) N s
    show (if W N = 0 then _ else _ : wT).1 s = _
    by_cases q : W N = 0
    · rw [if_pos q, ih]
      by_cases z : s < N ∧ W s ≠ 0
      · rw [if_pos z, if_pos ⟨by omega, z.2⟩]
      · rw [if_neg z, if_neg (fun y => z ⟨by
          rcases Nat.lt_or_ge s N with g | g
          · exact g
          · exact absurd q (by rw [← show s = N by omega]; exact y.2), y.2⟩)]
    · rw [if_neg q]
      show va_up (foV _ N t0).1 N (W N) s = _
      by_cases e : s = N
      · rw [e, va_up_self, if_pos ⟨by omega, q⟩]
      · rw [va_up_ne _ _ e, ih]
        by_cases z : s < N ∧ W s ≠ 0
        · rw [if_pos z, if_pos ⟨by omega, z.2⟩]
        · rw [if_neg z, if_neg (fun y => z ⟨by omega, y.2⟩)]
