-- PURE: factors
def alF (S : Nat) : Nat → Nat
  | 0 => 0
  | i + 1 => if S.testBit i then i + 1 else alF S i
theorem alF_t {S i : Nat} (h : S.testBit i = true) : alF S (i + 1) = i + 1 := by simp [alF, h]
theorem alF_f {S i : Nat} (h : S.testBit i = false) : alF S (i + 1) = alF S i := by simp [alF, h]
theorem alF_le {S : Nat} : ∀ i, alF S i ≤ i
  | 0 => Nat.le_refl 0
  | i + 1 => by
    have := alF_le (S := S) i
    cases h : S.testBit i
    · rw [alF_f h]; omega
    · rw [alF_t h]; exact Nat.le_refl _
/-- how many, the names, the steps of a set's names below i -/
def fiR (V : Nat → Nat) (S : Nat) : Nat → Nat × (Nat → Nat) × (Nat → Nat)
  | 0 => (0, fun _ => 0, fun _ => 0)
  | i + 1 => if S.testBit i then ((fiR V S i).1 + 1, va_up (fiR V S i).2.1 (fiR V S i).1 i, va_up (fiR V S i).2.2 (fiR V S i).1 (cellsF V S i)) else fiR V S i
theorem fiR_t {V : Nat → Nat} {S i : Nat} (h : S.testBit i = true) : fiR V S (i + 1) = ((fiR V S i).1 + 1, va_up (fiR V S i).2.1 (fiR V S i).1 i, va_up (fiR V S i).2.2 (fiR V S i).1 (cellsF V S i)) := by simp [fiR, h]
theorem fiR_f {V : Nat → Nat} {S i : Nat} (h : S.testBit i = false) : fiR V S (i + 1) = fiR V S i := by simp [fiR, h]
theorem bitN_t {S i : Nat} (h : S.testBit i = true) : bitN S i = 1 := by simp [bitN, h]
theorem bitN_f {S i : Nat} (h : S.testBit i = false) : bitN S i = 0 := by simp [bitN, h]
theorem fiR_1 {V : Nat → Nat} {S : Nat} : ∀ i, (fiR V S i).1 = popP S i
  | 0 => rfl
  | i + 1 => by
    have ih := fiR_1 (V := V) (S := S) i
    show _ = popP S i + bitN S i
    cases h : S.testBit i
    · rw [fiR_f h, bitN_f h, ih]; rfl
    · rw [fiR_t h, bitN_t h, ← ih]
theorem popP_mono {S : Nat} {a b : Nat} (h : a ≤ b) : popP S a ≤ popP S b := by
  induction b with
  | zero => rw [show a = 0 by omega]; exact Nat.le_refl _
  | succ b ih =>
    rcases Nat.lt_or_ge a (b + 1) with q | q
    · exact Nat.le_trans (ih (by omega)) (Nat.le_add_right _ _)
    · rw [show a = b + 1 by omega]; exact Nat.le_refl _
/-- when all names are found the rest of the way changes nothing -/
theorem fiR_end {V : Nat → Nat} {S i n : Nat} (hi : i ≤ n) (hn : n ≤ 12) (h : popc S ≤ popP S i) : fiR V S n = fiR V S i ∧ cellsF V S n = cellsF V S i := by
  induction n with
  | zero => rw [show i = 0 by omega]; exact ⟨rfl, rfl⟩
  | succ n ih =>
    rcases Nat.lt_or_ge i (n + 1) with q | q
    · have h1 := ih (by omega) (by omega)
      have hb : S.testBit n = false := by
        cases hb : S.testBit n
        · rfl
        · have h2 := popP_mono (S := S) (show n + 1 ≤ 12 by omega)
          rw [popP_12] at h2
          have h3 : popP S (n + 1) = popP S n + 1 := by show popP S n + bitN S n = _; rw [bitN_t hb]
          have h4 := popP_mono (S := S) (show i ≤ n by omega)
          omega
      rw [fiR_f hb, cellsF_f hb]
      exact h1
    · rw [show i = n + 1 by omega]; exact ⟨rfl, rfl⟩
theorem popP_le {S : Nat} {i : Nat} (h : i ≤ 12) : popP S i ≤ popc S := by
  rw [← popP_12]; exact popP_mono h
theorem tn_ex {x : Int32} {n : Nat} (hn : n < 2 ^ 31) (h : knP x n) : ∃ k, k < n ∧ x = nI k := by
  have h1 : ¬ x.toInt < 0 := by
    have := h.1
    rw [Int32.lt_iff_toInt_lt] at this
    exact this
  have h2 : ¬ (n : Int) ≤ x.toInt := by
    have := h.2
    rw [Int32.le_iff_toInt_le, nI_toInt hn] at this
    exact this
  refine ⟨x.toInt.toNat, by omega, Int32.toInt_inj.mp ?_⟩
  rw [nI_toInt (by omega)]
  omega
