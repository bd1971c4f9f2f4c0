-- LEVEL 2, places
theorem mtF_y {Pl : Nat → Nat} {n i : Nat} (h : Pl i ≠ 0 ∧ Pl i ≤ n) : mtF Pl n (i + 1) = mtF Pl n i ||| 2 ^ (Pl i - 1) := by simp only [mtF, if_pos h]
theorem mtF_n {Pl : Nat → Nat} {n i : Nat} (h : ¬ (Pl i ≠ 0 ∧ Pl i ≤ n)) : mtF Pl n (i + 1) = mtF Pl n i := by simp only [mtF, if_neg h]
theorem po_mt {Pl : Nat → Nat} {n : Nat} (h : ∀ i, Pl i ≤ n) : ∀ i, poF Pl i = mtF Pl n i
  | 0 => rfl
  | i + 1 => by
    by_cases q : Pl i = 0
    · rw [poF_0 q, mtF_n (fun z => z.1 q), po_mt h i]
    · rw [poF_1 q, mtF_y ⟨q, h i⟩, po_mt h i]
theorem mt_grow {Pl : Nat → Nat} {n i : Nat} : ∀ k, popP (mtF Pl n (i + k)) n ≤ popP (mtF Pl n i) n + k
  | 0 => Nat.le_refl _
  | k + 1 => by
    have ih := mt_grow (Pl := Pl) (n := n) (i := i) k
    show popP (mtF Pl n (i + k + 1)) n ≤ _
    by_cases q : Pl (i + k) ≠ 0 ∧ Pl (i + k) ≤ n
    · rw [mtF_y q]
      exact Nat.le_trans (popP_orc n) (by omega)
    · rw [mtF_n q]
      omega
theorem mt_has {Pl : Nat → Nat} {n a : Nat} (h : Pl a ≠ 0 ∧ Pl a ≤ n) : ∀ b, a < b → (mtF Pl n b).testBit (Pl a - 1) = true
  | 0, q => absurd q (Nat.not_lt_zero _)
  | b + 1, q => by
    by_cases e : a = b
    · rw [← e, mtF_y h]
      exact tb_or.mpr (Or.inr (tb_pw.mpr rfl))
    · have ih := mt_has h b (by omega)
      by_cases q2 : Pl b ≠ 0 ∧ Pl b ≤ n
      · rw [mtF_y q2]; exact tb_or.mpr (Or.inl ih)
      · rw [mtF_n q2]; exact ih
theorem or_same {o a : Nat} (h : o.testBit a = true) : o ||| 2 ^ a = o := Nat.eq_of_testBit_eq fun i => by
  rw [Nat.testBit_or, Nat.testBit_two_pow]
  by_cases hi : a = i
  · subst hi
    simp [h]
  · simp [hi]
theorem mt_pc {Pl : Nat → Nat} {n : Nat} (h : mtF Pl n n = 2 ^ n - 1) : pcOk Pl n := by
  have tot : popP (mtF Pl n n) n = n := by rw [h]; exact pop_all n (Nat.le_refl n)
  have key : ∀ b, b < n → ¬ popP (mtF Pl n (b + 1)) n ≤ b := fun b hb hc => by
    have := mt_grow (Pl := Pl) (n := n) (i := b + 1) (n - (b + 1))
    rw [show b + 1 + (n - (b + 1)) = n by omega, tot] at this
    omega
  have le : ∀ b, popP (mtF Pl n b) n ≤ b := fun b => by
    have := mt_grow (Pl := Pl) (n := n) (i := 0) b
    rw [Nat.zero_add, show mtF Pl n 0 = 0 from rfl, popP_z] at this
    omega
  have val : ∀ b, b < n → Pl b ≠ 0 ∧ Pl b ≤ n := fun b hb => Classical.byContradiction fun hc => key b hb (by rw [mtF_n hc]; exact le b)
  refine ⟨fun b hb => ⟨Nat.pos_of_ne_zero (val b hb).1, (val b hb).2⟩, fun i j hij hj e => ?_⟩
  have hh := mt_has (val i (by omega)) j hij
  rw [e] at hh
  refine key j hj ?_
  rw [mtF_y (val j hj), or_same hh]
  exact le j
