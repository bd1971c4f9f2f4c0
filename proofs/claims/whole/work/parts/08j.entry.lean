-- LEVEL 2, factors: the number of an entry
theorem entF_cg2 {nm nm2 sp sp2 C : Nat → Nat} : ∀ k, (∀ i, i < k → nm i = nm2 i ∧ sp i = sp2 i) → entF nm sp C k = entF nm2 sp2 C k
  | 0, _ => rfl
  | k + 1, h => by
    simp only [entF]
    rw [entF_cg2 k (fun i hi => h i (by omega)), (h k (by omega)).1, (h k (by omega)).2]
theorem ent_nm {V C : Nat → Nat} {S : Nat} : ∀ n, entF (fiR V S n).2.1 (fiR V S n).2.2 C (fiR V S n).1 = nmF C V S n
  | 0 => rfl
  | n + 1 => by
    have ih := ent_nm (V := V) (C := C) (S := S) n
    cases h : S.testBit n
    · rw [fiR_f h, nmF_f h, ih]
    · rw [fiR_t h, nmF_t h]
      show entF (va_up (fiR V S n).2.1 (fiR V S n).1 n) (va_up (fiR V S n).2.2 (fiR V S n).1 (cellsF V S n)) C (fiR V S n).1 + C (va_up (fiR V S n).2.1 (fiR V S n).1 n (fiR V S n).1) * va_up (fiR V S n).2.2 (fiR V S n).1 (cellsF V S n) (fiR V S n).1 = _
      rw [va_up_self, va_up_self, entF_cg2 (nm2 := (fiR V S n).2.1) (sp2 := (fiR V S n).2.2) _ (fun i hi => ⟨va_up_ne _ _ (by omega), va_up_ne _ _ (by omega)⟩), ih, Nat.mul_comm]
/-- the names of a factor: below its last one, in the set -/
theorem fi_nm {V : Nat → Nat} {S : Nat} : ∀ n i, i < (fiR V S n).1 → (fiR V S n).2.1 i < alF S n
  | 0, i, h => absurd h (Nat.not_lt_zero _)
  | n + 1, i, h => by
    have ih := fi_nm (V := V) (S := S) n
    cases hb : S.testBit n
    · rw [fiR_f hb] at h ⊢
      rw [alF_f hb]
      exact ih i h
    · rw [fiR_t hb] at h ⊢
      rw [alF_t hb]
      show va_up (fiR V S n).2.1 (fiR V S n).1 n i < n + 1
      by_cases q : i = (fiR V S n).1
      · rw [q, va_up_self]; omega
      · rw [va_up_ne _ _ q]
        have h1 := ih i (by have : i < (fiR V S n).1 + 1 := h; omega)
        have h2 := alF_le (S := S) n
        omega
theorem alF_hi {S n : Nat} (h : S < 2 ^ n) : ∀ k, alF S (n + k) = alF S n
  | 0 => rfl
  | k + 1 => by
    show alF S (n + k + 1) = _
    rw [alF_f (Nat.testBit_lt_two_pow (Nat.lt_of_lt_of_le h (Nat.pow_le_pow_right (by decide) (by omega)))), alF_hi h k]
/-- the last name of a factor stands last, the others below it -/
theorem fi_last {V : Nat → Nat} {S : Nat} : ∀ n, (fiR V S n).1 = 0 ∧ alF S n = 0 ∨ ∃ f, (fiR V S n).1 = f + 1 ∧ alF S n = (fiR V S n).2.1 f + 1 ∧ (∀ i, i < f → (fiR V S n).2.1 i < (fiR V S n).2.1 f)
  | 0 => Or.inl ⟨rfl, rfl⟩
  | n + 1 => by
    cases hb : S.testBit n
    · rw [fiR_f hb, alF_f hb]
      exact fi_last n
    · right
      rw [fiR_t hb, alF_t hb]
      refine ⟨(fiR V S n).1, rfl, ?_, fun i hi => ?_⟩
      · show n + 1 = va_up (fiR V S n).2.1 (fiR V S n).1 n (fiR V S n).1 + 1
        rw [va_up_self]
      · show va_up (fiR V S n).2.1 (fiR V S n).1 n i < va_up (fiR V S n).2.1 (fiR V S n).1 n (fiR V S n).1
        rw [va_up_self, va_up_ne _ _ (by omega)]
        exact Nat.lt_of_lt_of_le (fi_nm n i hi) (alF_le n)
/-- another value of the last name is as many steps further -/
theorem ent_last {nm sp C : Nat → Nat} {f a v : Nat} (ha : nm f = a) (hl : ∀ i, i < f → nm i < a) : entF nm sp (va_up C a v) (f + 1) = entF nm sp (va_up C a 0) (f + 1) + v * sp f := by
  simp only [entF]
  rw [ha, va_up_self, va_up_self, entF_cg (C := va_up C a v) (D := va_up C a 0) f (fun i hi => by
    have := hl i hi
    rw [va_up_ne _ _ (by omega), va_up_ne _ _ (by omega)]), Nat.zero_mul]
  omega
