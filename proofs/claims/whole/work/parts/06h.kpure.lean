-- the orders 0 to 4
abbrev wkT : Type := (Nat → Nat) × Nat × (Nat → Nat) × (Nat → Nat) × Nat
def wkC (how : Nat) (V Pl : Nat → Nat) (n : Nat) (s : wkT) (i : Nat) : Nat := if how = 1 then Pl i - 1 else if 2 ≤ how then (pkF (pkC V s.1 n how) s.2.1 n).1 - 1 else i
def wkN (n i a : Nat) (s : wkT) : wkT := (toF s.1 n a, s.2.1 ||| 2 ^ a, va_up s.2.2.1 i a, va_up s.2.2.2.1 i (s.1 a ||| 2 ^ a), s.2.2.2.2 + filF s.1 a n)
def wkF (how : Nat) (V Pl : Nat → Nat) (n : Nat) (s0 : wkT) : Nat → wkT
  | 0 => s0
  | i + 1 => wkN n i (wkC how V Pl n (wkF how V Pl n s0 i) i) (wkF how V Pl n s0 i)
def wkZ (how : Nat) (V Pl Se Li Od Bg : Nat → Nat) (n nf : Nat) : wkT := wkF how V Pl n (rowF Li (drF Se nf) n, 0, Od, Bg, 0) n
theorem toF_lt {Li : Nat → Nat} {n a : Nat} (h : ∀ i, Li i < 4096) : ∀ i, toF Li n a i < 4096 := fun i => by
  unfold toF va_up
  split
  · omega
  · unfold rowF
    split
    · unfold toB
      split
      · exact Nat.lt_of_le_of_lt (sdf_le _ _) (Nat.lt_of_le_of_lt (sdf_le _ _) (or_lt (h i) (h a)))
      · exact h i
    · exact h i
theorem drw_lt {Li Se : Nat → Nat} {nf n : Nat} (h : ∀ i, Li i < 4096) (h2 : ∀ i, Se i < 4096) : ∀ i, rowF Li (drF Se nf) n i < 4096 := fun i => by
  unfold rowF
  split
  · exact drF_lt h2 nf i
  · exact h i
/-- a name that is left -/
theorem pop_free {o : Nat} : ∀ n, popP o n < n → ∃ a, a < n ∧ o.testBit a = false
  | 0, h => absurd h (Nat.not_lt_zero _)
  | n + 1, h => by
    cases hb : o.testBit n
    · exact ⟨n, by omega, hb⟩
    · have h1 : bitN o n = 1 := bitN_1.mpr hb
      simp only [popP] at h
      obtain ⟨a, ha, hf⟩ := pop_free (o := o) n (by omega)
      exact ⟨a, by omega, hf⟩
theorem popP_or {o a : Nat} (hf : o.testBit a = false) : ∀ n, popP (o ||| 2 ^ a) n = popP o n + (if a < n then 1 else 0)
  | 0 => rfl
  | n + 1 => by
    simp only [popP]
    rw [popP_or hf n]
    have hb : bitN (o ||| 2 ^ a) n = bitN o n + (if a = n then 1 else 0) := by
      unfold bitN
      rw [Nat.testBit_or, Nat.testBit_two_pow]
      by_cases h : a = n
      · subst h
        rw [hf]
        simp
      · simp [h]
    rw [hb]
    rcases Nat.lt_trichotomy a n with h1 | h1 | h1
    · rw [if_pos h1, if_neg (show ¬ a = n by omega), if_pos (show a < n + 1 by omega)]; omega
    · rw [if_neg (show ¬ a < n by omega), if_pos h1, if_pos (show a < n + 1 by omega)]; omega
    · rw [if_neg (show ¬ a < n by omega), if_neg (show ¬ a = n by omega), if_neg (show ¬ a < n + 1 by omega)]; omega
theorem pkF_in {co : Nat → Nat} {o : Nat} : ∀ i, (pkF co o i).1 ≤ i ∧ (∀ p, (pkF co o i).1 = p + 1 → o.testBit p = false)
  | 0 => ⟨Nat.le_refl 0, fun p h => absurd h (by simp [pkF])⟩
  | i + 1 => by
    obtain ⟨h1, h2⟩ := pkF_in (co := co) (o := o) i
    cases hb : o.testBit i
    · by_cases hc : (pkF co o i).1 = 0 ∨ co i < (pkF co o i).2
      · rw [pkF_t hb hc]
        exact ⟨Nat.le_refl _, fun p hp => by
          have : i = p := Nat.succ.inj hp
          rw [← this]; exact hb⟩
      · rw [pkF_f hb hc]
        exact ⟨by omega, h2⟩
    · rw [pkF_o hb]
      exact ⟨by omega, h2⟩
theorem pkF_pos {co : Nat → Nat} {o a : Nat} (hf : o.testBit a = false) : ∀ i, a < i → (pkF co o i).1 ≠ 0
  | 0, h => absurd h (Nat.not_lt_zero _)
  | i + 1, h => by
    cases hb : o.testBit i
    · by_cases hc : (pkF co o i).1 = 0 ∨ co i < (pkF co o i).2
      · rw [pkF_t hb hc]; exact Nat.succ_ne_zero i
      · rw [pkF_f hb hc]
        exact fun q => hc (Or.inl q)
    · rw [pkF_o hb]
      have : a ≠ i := fun q => by rw [q, hb] at hf; exact absurd hf (by decide)
      exact pkF_pos hf i (by omega)
theorem pick_ok {co : Nat → Nat} {o n i : Nat} (h : popP o n = i) (hi : i < n) : ∃ p, (pkF co o n).1 = p + 1 ∧ p < n ∧ o.testBit p = false := by
  obtain ⟨a, ha, hf⟩ := pop_free (o := o) n (by omega)
  have h1 := pkF_pos (co := co) hf n ha
  obtain ⟨h2, h3⟩ := pkF_in (co := co) (o := o) n
  exact ⟨(pkF co o n).1 - 1, by omega, by omega, h3 _ (by omega)⟩
theorem pop_zero : ∀ n, popP 0 n = 0
  | 0 => rfl
  | n + 1 => by
    simp only [popP]
    rw [pop_zero n, show bitN 0 n = 0 from bitN_0.mpr (Nat.zero_testBit n)]
