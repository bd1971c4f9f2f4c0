theorem mI_inc (k : Nat) : mI k + Int32.ofInt 1 = nI k := by
  unfold mI
  rw [show Int32.ofInt 1 = 1 by decide]
  exact Int32.sub_add_cancel _ _
def tL (d : Int64) : Nat := d.toInt.toNat
theorem tL_lN {U : Nat} (h : U < 2 ^ 63) : tL (lN U) = U := by
  unfold tL
  rw [pk_lT h]
  omega
theorem ge0_nat {d : Int64} (h : lN 0 ≤ d) : ∃ U, U < 2 ^ 63 ∧ d = lN U := pk_lOf (fun q => by
  rw [Int64.lt_iff_toInt_lt] at q
  rw [Int64.le_iff_toInt_le] at h
  have e1 : (lN 0).toInt = 0 := by decide
  have e2 : (0 : Int64).toInt = 0 := by decide
  omega)
theorem dwF_at {wt : Nat → Nat} {U k : Nat} (h : U < smF wt k) : ∀ f, dwF wt U f k = k
  | 0 => rfl
  | _ + 1 => dwF_y h
