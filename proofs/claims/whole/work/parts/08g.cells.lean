-- LEVEL 2, the best of all orders: the fewest cells
def rlC (n m c out : Nat) : Prop := (m = 0 ∧ c = 268435457) ∨ (m ≠ 0 ∧ c = m ∧ m ≤ (n - popP out n) * 16777216 + 1)
theorem rl_b {n k : Nat} (hn : n ≤ 12) : (n - k) * 16777216 + 1 ≤ 201326593 := by
  have : (n - k) * 16777216 ≤ 12 * 16777216 := Nat.mul_le_mul_right _ (by omega)
  exact Nat.le_trans (Nat.add_le_add_right this 1) (by decide)
theorem bag_2n {Nb : Nat → Nat} {n a out : Nat} (hG : grOk Nb n) (ha : a < n) : bagF Nb n a out < 2 ^ n := lt_2n (fun _ hc => Rp_lt hG ha ((bagF_iff hG.1 hG.2.1 ha).mp hc).1)
theorem goF_pop_le (S : Nat) : ∀ n, popP S n ≤ n
  | 0 => Nat.le_refl 0
  | n + 1 => by
    have := goF_pop_le S n
    have hb : bitN S n ≤ 1 := by
      cases h : S.testBit n
      · rw [bitN_f h]; omega
      · rw [bitN_t h]; exact Nat.le_refl 1
    simp only [popP]
    omega
theorem pc_cf {Nb V L Lc F H : Nat → Nat} {n wd out a : Nat} (hG : grOk Nb n) (hV : ∀ j, V j ≤ 4) (h : ∀ b, b < n → L b = Nb b) (hL : ∀ S, S < 2 ^ n → Lc S = cellsF V S n) (ha : a < n) (hf : out.testBit a = false) (hr : rlC n (F (out ||| 2 ^ a)) (H (out ||| 2 ^ a)) (out ||| 2 ^ a)) :
    (pcF V L n wd F a out = 0 ∧ 268435457 ≤ cfC Nb Lc H n wd a out) ∨ (pcF V L n wd F a out ≠ 0 ∧ cfC Nb Lc H n wd a out = pcF V L n wd F a out ∧ pcF V L n wd F a out ≤ (n - popP out n) * 16777216 + 1) := by
  have e := mb_bag hG h ha hf
  have hb := bag_2n (out := out) hG ha
  have hcb := cellsF_b hV (bagF Nb n a out) hG.1
  by_cases hw : wd < popc (bagF Nb n a out)
  · refine Or.inl ⟨pcF_n (Or.inl (by rw [e]; exact hw)), ?_⟩
    rw [cfC_w hw]
    exact Nat.le_refl _
  · rcases hr with ⟨r1, r2⟩ | ⟨r1, r2, r3⟩
    · refine Or.inl ⟨pcF_n (Or.inr r1), ?_⟩
      rw [cfC_n hw, r2]
      omega
    · have hp : popP (out ||| 2 ^ a) n = popP out n + 1 := by rw [popP_or hf n, if_pos ha]
      have hfree : popP out n + 1 ≤ n := by
        rw [← hp]
        have := goF_pop_le (out ||| 2 ^ a) n
        exact this
      have hy : pcF V L n wd F a out = cellsF V (bagF Nb n a out) n + F (out ||| 2 ^ a) := by
        rw [pcF_y (fun q => q.elim (by rw [e]; exact hw) r1), e]
      refine Or.inr ⟨by rw [hy]; omega, by rw [hy, cfC_n hw, hL _ hb, r2], ?_⟩
      rw [hy]
      rw [hp] at r3
      have : (n - popP out n) * 16777216 = (n - (popP out n + 1)) * 16777216 + 16777216 := by
        rw [show n - popP out n = (n - (popP out n + 1)) + 1 by omega, Nat.add_mul, Nat.one_mul]
      omega
theorem cc_set {Nb V L Lc F H : Nat → Nat} {n wd out : Nat} (hG : grOk Nb n) (hV : ∀ j, V j ≤ 4) (h : ∀ b, b < n → L b = Nb b) (hL : ∀ S, S < 2 ^ n → Lc S = cellsF V S n) (hr : ∀ a, a < n → out.testBit a = false → rlC n (F (out ||| 2 ^ a)) (H (out ||| 2 ^ a)) (out ||| 2 ^ a)) :
    ∀ m, m ≤ n → rlC n (chS V L F n wd out m) (ccC Nb Lc H n wd out m) out
  | 0, _ => Or.inl ⟨rfl, rfl⟩
  | m + 1, hm => by
    have ih := cc_set (wd := wd) hG hV h hL hr m (by omega)
    cases hb : out.testBit m
    · have hle := ccC_le (L := Nb) (Lc := Lc) (F := H) (n := n) (wd := wd) (out := out) m
      have hbd := rl_b (n := n) (k := popP out n) hG.1
      rw [ccC_i hb]
      rcases pc_cf (wd := wd) hG hV h hL (show m < n by omega) hb (hr m (by omega) hb) with ⟨p1, p2⟩ | ⟨p1, p2, p3⟩
      · rw [chS_n hb (fun q => q.1 p1), Nat.min_eq_left (by omega)]
        exact ih
      · rcases ih with ⟨i1, i2⟩ | ⟨i1, i2, i3⟩
        · rw [chS_y hb ⟨p1, Or.inl i1⟩, i2, p2, Nat.min_eq_right (by omega)]
          exact Or.inr ⟨p1, rfl, p3⟩
        · by_cases hlt : pcF V L n wd F m out < chS V L F n wd out m
          · rw [chS_y hb ⟨p1, Or.inr hlt⟩, i2, p2, Nat.min_eq_right (by omega)]
            exact Or.inr ⟨p1, rfl, p3⟩
          · rw [chS_n hb (fun q => q.2.elim i1 hlt), i2, p2, Nat.min_eq_left (by omega)]
            exact Or.inr ⟨i1, rfl, i3⟩
    · rw [chS_o hb, ccC_o hb]
      exact ih
theorem cc_all {Nb V L Lc Ch Le : Nat → Nat} {n wd : Nat} (hG : grOk Nb n) (hV : ∀ j, V j ≤ 4) (h : ∀ b, b < n → L b = Nb b) (hL : ∀ S, S < 2 ^ n → Lc S = cellsF V S n) : ∀ j, j ≤ 2 ^ n - 1 → ∀ i, 2 ^ n - 1 - j ≤ i → i ≤ 2 ^ n - 1 → rlC n (chA V L Ch n wd j i) (ccR Nb Lc Le n wd j i) i
  | 0, _, i, h1, h2 => by
    have e : i = 2 ^ n - 1 := by omega
    subst e
    show rlC n (va_up Ch (2 ^ n - 1) 1 (2 ^ n - 1)) (va_up Le (2 ^ n - 1) 1 (2 ^ n - 1)) _
    rw [va_up_self, va_up_self]
    exact Or.inr ⟨by decide, rfl, by omega⟩
  | j + 1, hj, i, h1, h2 => by
    have ih := cc_all (Ch := Ch) (Le := Le) (wd := wd) hG hV h hL j (by omega)
    simp only [chA, ccR]
    by_cases q : i = 2 ^ n - 1 - 1 - j
    · subst q
      rw [va_up_self, va_up_self]
      exact cc_set hG hV h hL (fun a ha hf => by
          have hg := or_gt hf
          have hl : (2 ^ n - 1 - 1 - j) ||| 2 ^ a < 2 ^ n := or_lt2 (by omega) (pw_lt2 ha)
          exact ih _ (by omega) (by omega)) n (Nat.le_refl n)
    · rw [va_up_ne _ _ q, va_up_ne _ _ q]
      exact ih i (by omega) h2
