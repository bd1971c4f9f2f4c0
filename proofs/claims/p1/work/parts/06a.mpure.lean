-- PURE: what the reference's methods compute
def inZ (v lo hi : Int64) : Prop := ¬ v < lo ∧ ¬ hi < v
theorem i64_of (x : Int32) : x.toInt64.toInt = x.toInt := Int32.toInt_toInt64 x
theorem in_kn {x : Int32} {n : Nat} (hn : n < 2 ^ 30) : inZ x.toInt64 (lN 0) (mI n).toInt64 ↔ knP x n := by
  unfold inZ knP
  rw [Int64.lt_iff_toInt_lt, Int64.lt_iff_toInt_lt, i64_of, i64_of, mI_toInt hn, Int32.lt_iff_toInt_lt, Int32.le_iff_toInt_le, nI_toInt (Nat.lt_trans hn (by decide))]
  have h0 : (lN 0).toInt = 0 := by decide
  have h1 : (0 : Int32).toInt = 0 := by decide
  rw [h0, h1]
  omega
def stP (x : Int32) (n : Nat) : Prop := ¬ x < 0 ∧ ¬ nI (2 ^ n) ≤ x
def popP (S : Nat) : Nat → Nat
  | 0 => 0
  | i + 1 => popP S i + bitN S i
theorem popP_12 (S : Nat) : popP S 12 = popc S := rfl
def sumF (C : Nat → Nat) : Nat → Nat
  | 0 => 0
  | i + 1 => sumF C i + C i
def orF (Se : Nat → Nat) (a : Nat) : Nat → Nat
  | 0 => 0
  | f + 1 => if (Se f).testBit a then orF Se a f ||| Se f else orF Se a f
theorem orF_t {Se : Nat → Nat} {a f : Nat} (h : (Se f).testBit a = true) : orF Se a (f + 1) = orF Se a f ||| Se f := by simp [orF, h]
theorem orF_f {Se : Nat → Nat} {a f : Nat} (h : (Se f).testBit a = false) : orF Se a (f + 1) = orF Se a f := by simp [orF, h]
theorem orF_lt {Se : Nat → Nat} (h : ∀ i, Se i < 4096) (a : Nat) : ∀ f, orF Se a f < 4096
  | 0 => by show 0 < 4096; decide
  | f + 1 => by
    cases hb : (Se f).testBit a
    · rw [orF_f hb]; exact orF_lt h a f
    · rw [orF_t hb]; exact or_lt (orF_lt h a f) (h f)
/-- the neighbours, out of the sets -/
def drF (Se : Nat → Nat) (nf a : Nat) : Nat := sdf (orF Se a nf) (2 ^ a)
theorem drF_lt {Se : Nat → Nat} (h : ∀ i, Se i < 4096) (nf a : Nat) : drF Se nf a < 4096 := Nat.lt_of_le_of_lt (sdf_le _ _) (orF_lt h a nf)
def filI (Li : Nat → Nat) (a b : Nat) : Nat → Nat
  | 0 => 0
  | c + 1 => if (Li a).testBit b ∧ (Li a).testBit c ∧ (Li b).testBit c = false then filI Li a b c + 1 else filI Li a b c
theorem filI_t {Li : Nat → Nat} {a b c : Nat} (h1 : (Li a).testBit b = true) (h2 : (Li a).testBit c = true) (h3 : (Li b).testBit c = false) : filI Li a b (c + 1) = filI Li a b c + 1 := by simp [filI, h1, h2, h3]
theorem filI_f1 {Li : Nat → Nat} {a b c : Nat} (h1 : (Li a).testBit b = false) : filI Li a b (c + 1) = filI Li a b c := by simp [filI, h1]
theorem filI_f2 {Li : Nat → Nat} {a b c : Nat} (h1 : (Li a).testBit c = false) : filI Li a b (c + 1) = filI Li a b c := by simp [filI, h1]
theorem filI_f3 {Li : Nat → Nat} {a b c : Nat} (h1 : (Li b).testBit c = true) : filI Li a b (c + 1) = filI Li a b c := by simp [filI, h1]
def filF (Li : Nat → Nat) (a : Nat) : Nat → Nat
  | 0 => 0
  | b + 1 => filF Li a b + filI Li a b b
theorem filI_le {Li : Nat → Nat} {a b : Nat} : ∀ c, filI Li a b c ≤ c
  | 0 => Nat.le_refl 0
  | c + 1 => by
    have := filI_le (Li := Li) (a := a) (b := b) c
    unfold filI
    split <;> omega
theorem filF_le {Li : Nat → Nat} {a : Nat} : ∀ b, filF Li a b ≤ b * b
  | 0 => Nat.le_refl 0
  | b + 1 => by
    have h1 := filF_le (Li := Li) (a := a) b
    have h2 := filI_le (Li := Li) (a := a) (b := b) b
    simp only [filF]
    have : (b + 1) * (b + 1) = b * b + b + b + 1 := by
      rw [Nat.add_mul, Nat.mul_add]
      omega
    omega
/-- the neighbours behind the taking out of a, at b -/
def toB (Li : Nat → Nat) (a b : Nat) : Nat := if (Li a).testBit b then sdf (sdf (Li b ||| Li a) (2 ^ b)) (2 ^ a) else Li b
def toF (Li : Nat → Nat) (n a : Nat) : Nat → Nat := va_up (rowF Li (toB Li a) n) a 0
theorem rowF_ge {f g : Nat → Nat} {i j : Nat} (h : i ≤ j) : rowF f g i j = f j := by
  unfold rowF
  rw [if_neg (by omega)]
theorem rowF_skip {f g : Nat → Nat} {i : Nat} (h : g i = f i) : rowF f g (i + 1) = rowF f g i := by
  funext j
  unfold rowF
  by_cases h1 : j < i
  · rw [if_pos h1, if_pos (by omega)]
  · rw [if_neg h1]
    by_cases h2 : j < i + 1
    · rw [if_pos h2, show j = i by omega, h]
    · rw [if_neg h2]
