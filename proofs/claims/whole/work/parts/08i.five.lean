-- LEVEL 2, the best of all orders: both rows are the same
theorem cd5_iff {V L Ch : Nat → Nat} {n wd o a : Nat} (h : cd5 V L Ch n wd o a = true) : o.testBit a = false ∧ pcF V L n wd Ch a o = Ch o := by
  unfold cd5 at h
  rw [Bool.and_eq_true, Bool.not_eq_true', decide_eq_true_iff] at h
  exact h
theorem pcF_nz {V L F : Nat → Nat} {n wd o a : Nat} (h : pcF V L n wd F a o ≠ 0) : F (o ||| 2 ^ a) ≠ 0 := fun z => h (pcF_n (Or.inr z))
theorem fw_all {Nb V L Lc F H Fo Od : Nat → Nat} {n wd : Nat} (hG : grOk Nb n) (hV : ∀ j, V j ≤ 4) (h : ∀ b, b < n → L b = Nb b) (hL : ∀ S, S < 2 ^ n → Lc S = cellsF V S n) (hr : ∀ o, o < 2 ^ n → rlC n (F o) (H o) o) (hex : ∀ o, o < 2 ^ n - 1 → ∃ b, b < n ∧ cd5 V L F n wd o b = true) (h0 : F 0 ≠ 0) :
    ∀ i, i ≤ n → (fwC Nb Lc H Fo n wd i).1 = (ob5 V L F Od n wd i).1 ∧ (ob5 V L F Od n wd i).1 < 2 ^ n ∧ popP (ob5 V L F Od n wd i).1 n = i ∧ F (ob5 V L F Od n wd i).1 ≠ 0 ∧ (∀ j, j < i → (fwC Nb Lc H Fo n wd i).2 j = (ob5 V L F Od n wd i).2 j ∧ (ob5 V L F Od n wd i).2 j < n ∧ (goF (ob5 V L F Od n wd i).2 j).testBit ((ob5 V L F Od n wd i).2 j) = false) ∧ (ob5 V L F Od n wd i).1 = goF (ob5 V L F Od n wd i).2 i
  | 0, _ => ⟨rfl, Nat.pow_pos (by decide), popP_z n, h0, fun _ q => absurd q (Nat.not_lt_zero _), rfl⟩
  | i + 1, hi => by
    obtain ⟨a1, a2, a3, a4, a5, a6⟩ := fw_all hG hV h hL hr hex h0 (Fo := Fo) (Od := Od) (wd := wd) i (by omega)
    generalize hob : ob5 V L F Od n wd i = ob at *
    obtain ⟨o, R⟩ := ob
    generalize hfw : fwC Nb Lc H Fo n wd i = fw at *
    obtain ⟨o2, R2⟩ := fw
    simp only at a1 a2 a3 a4 a5 a6
    subst a1
    have hlt : o2 < 2 ^ n - 1 := by
      rcases Nat.lt_or_ge o2 (2 ^ n - 1) with q | q
      · exact q
      · have e : o2 = 2 ^ n - 1 := by omega
        rw [e, pop_all n (Nat.le_refl n)] at a3
        omega
    obtain ⟨b, hb1, hb2⟩ := hex o2 hlt
    have hfn := fn5_hit (P := cd5 V L F n wd o2) n 0 ⟨b, Nat.zero_le _, by omega, hb2⟩
    have hsame : fn5 (cdC Nb Lc H n wd o2) n 0 = fn5 (cd5 V L F n wd o2) n 0 := (fn5_cg n 0 (fun c _ hc => cd_eq hG hV h hL (by omega) (fun a ha hf => hr _ (or_lt2 a2 (pw_lt2 ha))) (hr o2 a2) a4)).symm
    have e5 : ob5 V L F Od n wd (i + 1) = (o2 ||| 2 ^ fn5 (cd5 V L F n wd o2) n 0, va_up R i (fn5 (cd5 V L F n wd o2) n 0)) := by
      simp only [ob5]
      rw [hob]
    have ef : fwC Nb Lc H Fo n wd (i + 1) = (o2 ||| 2 ^ fn5 (cd5 V L F n wd o2) n 0, va_up R2 i (fn5 (cd5 V L F n wd o2) n 0)) := by
      rw [fwC_t (by rw [hfw, hsame]; omega), hfw, hsame]
    rw [e5, ef]
    generalize fn5 (cd5 V L F n wd o2) n 0 = x at *
    obtain ⟨hx1, hx2⟩ := cd5_iff hfn.2.2
    have hxn : x < n := by omega
    refine ⟨rfl, or_lt2 a2 (pw_lt2 hxn), ?_, pcF_nz (by rw [hx2]; exact a4), fun j hj => ?_, ?_⟩
    · show popP (o2 ||| 2 ^ x) n = i + 1
      rw [popP_or hx1 n, if_pos hxn, a3]
    · show va_up R2 i x j = va_up R i x j ∧ va_up R i x j < n ∧ (goF (va_up R i x) j).testBit (va_up R i x j) = false
      rw [goF_up j (by omega)]
      by_cases q : j = i
      · subst q
        rw [va_up_self, va_up_self, ← a6]
        exact ⟨rfl, hxn, hx1⟩
      · rw [va_up_ne _ _ q, va_up_ne _ _ q]
        exact a5 j (by omega)
    · show o2 ||| 2 ^ x = goF (va_up R i x) i ||| 2 ^ va_up R i x i
      rw [goF_up i (Nat.le_refl i), va_up_self, ← a6]
