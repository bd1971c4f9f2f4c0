-- LEVEL 2, the best of all orders
theorem bgN_cg {L M : Nat → Nat} {a out sn : Nat} : ∀ m, (∀ b, b < m → L b = M b) → bgN L a out sn m = bgN M a out sn m
  | 0, _ => rfl
  | m + 1, h => by
    have ih := bgN_cg (a := a) (out := out) (sn := sn) m (fun b hb => h b (by omega))
    by_cases hm : sn.testBit m = true ∧ (m = a ∨ out.testBit m = true)
    · rw [bgN_t hm, bgN_t hm, ih, h m (by omega)]
    · rw [bgN_f hm, bgN_f hm, ih]
theorem bgX_cg {L M : Nat → Nat} {n a out : Nat} (h : ∀ b, b < n → L b = M b) : ∀ k sn, bgX L n a out k sn = bgX M n a out k sn
  | 0, _ => rfl
  | k + 1, sn => by
    simp only [bgX]
    rw [bgN_cg n h, bgX_cg h k]
theorem mbF_cg {L M : Nat → Nat} {n a out : Nat} (h : ∀ b, b < n → L b = M b) : mbF L n a out = mbF M n a out := by
  unfold mbF
  rw [bgX_cg h]
theorem mb_bag {Nb L : Nat → Nat} {n a out : Nat} (hG : grOk Nb n) (h : ∀ b, b < n → L b = Nb b) (ha : a < n) (ho : out.testBit a = false) : mbF L n a out = bagF Nb n a out := by
  rw [mbF_cg h, mbF_eq hG.1 hG.2.1 ha ho]
theorem g4096 {Nb : Nat → Nat} {n : Nat} (hG : grOk Nb n) : ∀ i, Nb i < 4096 := fun i => Nat.lt_of_lt_of_le (hG.2.1 i) (Nat.pow_le_pow_right (by decide) hG.1)
theorem free_ex {o n : Nat} (h : o < 2 ^ n - 1) : ∃ a, a < n ∧ o.testBit a = false := by
  refine Classical.byContradiction fun hc => ?_
  have : o = 2 ^ n - 1 := Nat.eq_of_testBit_eq fun i => by
    rw [Nat.testBit_two_pow_sub_one]
    by_cases hi : i < n
    · cases q : o.testBit i
      · exact absurd ⟨i, hi, q⟩ hc
      · simp [hi]
    · rw [Nat.testBit_lt_two_pow (Nat.lt_of_lt_of_le (show o < 2 ^ n by omega) (Nat.pow_le_pow_right (by decide) (by omega)))]
      simp [hi]
  omega
/-- one set: the least widths over the names below m -/
theorem lw_set {Nb L F H : Nat → Nat} {n out : Nat} (hG : grOk Nb n) (h : ∀ b, b < n → L b = Nb b) (hF : ∀ a, a < n → out.testBit a = false → F (out ||| 2 ^ a) = H (out ||| 2 ^ a) ∧ F (out ||| 2 ^ a) ≤ 12) :
    ∀ m, m ≤ n → ((∀ a, a < m → out.testBit a = true) ∧ lwS L F n out m = 101 ∧ lwC Nb H n out m = 13) ∨ (lwS L F n out m = lwC Nb H n out m ∧ lwS L F n out m ≤ 12)
  | 0, _ => Or.inl ⟨fun _ q => absurd q (Nat.not_lt_zero _), rfl, rfl⟩
  | m + 1, hm => by
    have ih := lw_set hG h hF m (by omega)
    cases hb : out.testBit m
    · right
      obtain ⟨e1, e2⟩ := hF m (by omega) hb
      have e3 := mb_bag hG h (show m < n by omega) hb
      have e4 := popc_le _ (bagF_lt (g4096 hG) (show m < 12 by have := hG.1; omega) : bagF Nb n m out < 4096)
      rw [lwS_i hb, lwC_i hb, e3, e1]
      rw [e1] at e2
      rcases ih with ⟨-, h2, h3⟩ | ⟨h2, h3⟩
      · rw [h2, h3]
        exact ⟨by omega, by omega⟩
      · rw [← h2]
        exact ⟨rfl, by omega⟩
    · rw [lwS_o hb, lwC_o hb]
      rcases ih with ⟨h1, h2, h3⟩ | h2
      · refine Or.inl ⟨fun a ha => ?_, h2, h3⟩
        by_cases q : a = m
        · rw [q, hb]
        · exact h1 a (by omega)
      · exact Or.inr h2
/-- all sets: behind j steps the settled places are the same, and at most 12 -/
theorem lw_all {Nb L Le Lf : Nat → Nat} {n : Nat} (hG : grOk Nb n) (h : ∀ b, b < n → L b = Nb b) : ∀ j, j ≤ 2 ^ n - 1 → ∀ i, 2 ^ n - 1 - j ≤ i → i ≤ 2 ^ n - 1 → lwA L Le n j i = lwR Nb Lf n j i ∧ lwA L Le n j i ≤ 12
  | 0, _, i, h1, h2 => by
    have e : i = 2 ^ n - 1 := by omega
    subst e
    show va_up Le (2 ^ n - 1) 0 (2 ^ n - 1) = va_up Lf (2 ^ n - 1) 0 (2 ^ n - 1) ∧ va_up Le (2 ^ n - 1) 0 (2 ^ n - 1) ≤ 12
    rw [va_up_self, va_up_self]
    exact ⟨rfl, by omega⟩
  | j + 1, hj, i, h1, h2 => by
    have ih := lw_all (Le := Le) (Lf := Lf) hG h j (by omega)
    simp only [lwA, lwR]
    by_cases q : i = 2 ^ n - 1 - 1 - j
    · subst q
      rw [va_up_self, va_up_self]
      rcases lw_set (F := lwA L Le n j) (H := lwR Nb Lf n j) (out := 2 ^ n - 1 - 1 - j) hG h (fun a ha hf => by
          have hg := or_gt hf
          have hl : (2 ^ n - 1 - 1 - j) ||| 2 ^ a < 2 ^ n := or_lt2 (by omega) (pw_lt2 ha)
          exact ih _ (by omega) (by omega)) n (Nat.le_refl n) with ⟨g1, -, -⟩ | g
      · obtain ⟨a, ha, hf⟩ := free_ex (o := 2 ^ n - 1 - 1 - j) (n := n) (by omega)
        rw [g1 a ha] at hf
        exact absurd hf (by decide)
      · exact g
    · rw [va_up_ne _ _ q, va_up_ne _ _ q]
      exact ih i (by omega) h2
theorem lw_0 {Nb L Le Lf : Nat → Nat} {n : Nat} (hG : grOk Nb n) (h : ∀ b, b < n → L b = Nb b) : lwA L Le n (2 ^ n - 1) 0 = lwR Nb Lf n (2 ^ n - 1) 0 ∧ lwA L Le n (2 ^ n - 1) 0 ≤ 12 :=
  lw_all hG h _ (Nat.le_refl _) 0 (by omega) (by omega)
