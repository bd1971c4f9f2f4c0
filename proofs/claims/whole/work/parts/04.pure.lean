-- PURE: what the methods' loops compute
/-- the product of the values of a set's names below i -/
def cellsF (V : Nat → Nat) (S : Nat) : Nat → Nat
  | 0 => 1
  | i + 1 => if S.testBit i then cellsF V S i * V i else cellsF V S i
theorem cellsF_t {V : Nat → Nat} {S i : Nat} (h : S.testBit i = true) : cellsF V S (i + 1) = cellsF V S i * V i := by
  simp [cellsF, h]
theorem cellsF_f {V : Nat → Nat} {S i : Nat} (h : S.testBit i = false) : cellsF V S (i + 1) = cellsF V S i := by
  simp [cellsF, h]
/-- how many bits below 12 -/
def popc (a : Nat) : Nat := (List.range 12).foldl (fun s i => s + (a.testBit i).toNat) 0
/-- the lowest bit's place -/
def tz (o : Nat) : Nat := ((List.range 12).find? (fun i => o.testBit i)).getD 0
def popS (Nb : Nat → Nat) : Nat → Nat
  | 0 => 0
  | i + 1 => popS Nb i + popc (Nb i)
theorem by4096 {P : Nat → Prop} (h : ∀ a, a < 64 → ∀ b, b < 64 → P (64 * a + b)) : ∀ o, o < 4096 → P o := fun o ho => by
  have h2 := h (o / 64) (by omega) (o % 64) (by omega)
  rwa [show 64 * (o / 64) + o % 64 = o by omega] at h2
theorem popc_le : ∀ a, a < 4096 → popc a ≤ 12 := by4096 (by decide +kernel)
theorem popS_le {Nb : Nat → Nat} (h : ∀ i, Nb i < 4096) : ∀ i, popS Nb i ≤ 12 * i
  | 0 => Nat.le_refl 0
  | i + 1 => by
    have h1 := popS_le h i
    have h2 := popc_le (Nb i) (h i)
    simp only [popS]
    omega
theorem tz_lt : ∀ o, o < 4096 → 0 < o → tz o < 12 := by4096 (by decide +kernel)
theorem zb_low : ∀ o, o < 4096 → 0 < o → (nI o &&& -(nI o)) - nI 1 = nI (2 ^ tz o - 1) := by4096 (by decide +kernel)
theorem popc_low : ∀ t, t < 12 → popc (2 ^ t - 1) = t := by decide +kernel
/-- the steps of reached() -/
def rchL (Nb : Nat → Nat) (I : Nat) : Nat → Nat → Nat → Nat
  | 0, seen, _ => seen
  | k + 1, seen, passed => if sdf (seen &&& I) passed = 0 then seen else rchL Nb I k (seen ||| Nb (tz (sdf (seen &&& I) passed))) (passed ||| 2 ^ tz (sdf (seen &&& I) passed))
def rchF (Nb : Nat → Nat) (n f I : Nat) : Nat := rchL Nb I n (Nb f ||| 2 ^ f) 0
theorem rchL_0 {Nb : Nat → Nat} {I k seen passed : Nat} (h : sdf (seen &&& I) passed = 0) : rchL Nb I (k + 1) seen passed = seen := by
  simp [rchL, h]
theorem rchL_s {Nb : Nat → Nat} {I k seen passed : Nat} (h : ¬ sdf (seen &&& I) passed = 0) : rchL Nb I (k + 1) seen passed = rchL Nb I k (seen ||| Nb (tz (sdf (seen &&& I) passed))) (passed ||| 2 ^ tz (sdf (seen &&& I) passed)) := by
  simp [rchL, h]
theorem sdf_le (a b : Nat) : sdf a b ≤ a := by
  apply Nat.le_of_testBit
  intro i h
  rw [sdf_bit] at h
  cases h2 : a.testBit i
  · rw [h2] at h
    simp at h
  · rfl
theorem or_lt {a b : Nat} (ha : a < 4096) (hb : b < 4096) : a ||| b < 4096 := Nat.or_lt_two_pow (n := 12) ha hb
theorem pw_lt {i : Nat} (h : i < 12) : 2 ^ i < 4096 := Nat.pow_lt_pow_right (by decide) h
theorem rchL_lt {Nb : Nat → Nat} {I : Nat} (hN : ∀ i, Nb i < 4096) : ∀ k seen passed, seen < 4096 → rchL Nb I k seen passed < 4096
  | 0, _, _, h => h
  | k + 1, seen, passed, h => by
    by_cases h0 : sdf (seen &&& I) passed = 0
    · rw [rchL_0 h0]; exact h
    · rw [rchL_s h0]; exact rchL_lt hN k _ _ (or_lt h (hN _))
theorem rchF_lt {Nb : Nat → Nat} {n f I : Nat} (hN : ∀ i, Nb i < 4096) (hf : f < 12) : rchF Nb n f I < 4096 := rchL_lt hN _ _ _ (or_lt (hN f) (pw_lt hf))
def bagF (Nb : Nat → Nat) (n f gone : Nat) : Nat := sdf (rchF Nb n f gone) gone
theorem bagF_lt {Nb : Nat → Nat} {n f I : Nat} (hN : ∀ i, Nb i < 4096) (hf : f < 12) : bagF Nb n f I < 4096 := Nat.lt_of_le_of_lt (sdf_le _ _) (rchF_lt hN hf)
def fillS (Nb : Nat → Nat) (n bag gone : Nat) : Nat → Nat
  | 0 => 0
  | i + 1 => if bag.testBit i then fillS Nb n bag gone i + popc (sdf bag (rchF Nb n i gone)) else fillS Nb n bag gone i
theorem fillS_t {Nb : Nat → Nat} {n bag gone i : Nat} (h : bag.testBit i = true) : fillS Nb n bag gone (i + 1) = fillS Nb n bag gone i + popc (sdf bag (rchF Nb n i gone)) := by simp [fillS, h]
theorem fillS_f {Nb : Nat → Nat} {n bag gone i : Nat} (h : bag.testBit i = false) : fillS Nb n bag gone (i + 1) = fillS Nb n bag gone i := by simp [fillS, h]
theorem fillS_le {Nb : Nat → Nat} {n bag gone : Nat} (hb : bag < 4096) : ∀ i, fillS Nb n bag gone i ≤ 12 * i
  | 0 => Nat.le_refl 0
  | i + 1 => by
    have h1 := fillS_le (Nb := Nb) (n := n) (gone := gone) hb i
    have h2 := popc_le (sdf bag (rchF Nb n i gone)) (Nat.lt_of_le_of_lt (sdf_le _ _) hb)
    cases h : bag.testBit i
    · rw [fillS_f h]; omega
    · rw [fillS_t h]; omega
/-- the rest of a state behind the names from i on (n of them in all): divided by the values of the names n - 1 down to n - k -/
def restF (V : Nat → Nat) (n x : Nat) : Nat → Nat
  | 0 => x
  | k + 1 => restF V n x k / V (n - 1 - k)
theorem restF_le {V : Nat → Nat} {n x : Nat} : ∀ k, restF V n x k ≤ x
  | 0 => Nat.le_refl x
  | k + 1 => Nat.le_trans (Nat.div_le_self _ _) (restF_le k)
def valF (V : Nat → Nat) (n x i : Nat) : Nat := restF V n x (n - 1 - i) % V i
def knP (x : Int32) (n : Nat) : Prop := ¬ x < 0 ∧ ¬ nI n ≤ x
def kaP (x : Int32) (n : Nat) : Prop := ¬ x < 0 ∧ x >>> (nI n &&& 31) = 0
-- a factor
def entF (nm sp C : Nat → Nat) : Nat → Nat
  | 0 => 0
  | i + 1 => entF nm sp C i + C (nm i) * sp i
/-- a row in which the first i places have been made anew -/
def rowF (f g : Nat → Nat) (i : Nat) : Nat → Nat := fun j => if j < i then g j else f j
theorem rowF_0 (f g : Nat → Nat) : rowF f g 0 = f := by
  funext j
  simp [rowF]
theorem rowF_s (f g : Nat → Nat) (i : Nat) : va_up (rowF f g i) i (g i) = rowF f g (i + 1) := by
  funext j
  unfold va_up rowF
  by_cases h : j = i
  · subst h
    simp
  · rw [if_neg h]
    by_cases h2 : j < i
    · rw [if_pos h2, if_pos (by omega)]
    · rw [if_neg h2, if_neg (by omega)]
/-- products[from ..] times the powers of the entries e, e + st, .. -/
def mulF (Pr P : Nat → Nat) (fr e st v : Nat) : Nat → Nat := fun j => if fr ≤ j ∧ j < fr + v then Pr j * P (e + (j - fr) * st) else Pr j
theorem mulF_0 (Pr P : Nat → Nat) (fr e st : Nat) : mulF Pr P fr e st 0 = Pr := by
  funext j
  unfold mulF
  rw [if_neg (by omega)]
theorem mulF_at (Pr P : Nat → Nat) (fr e st v : Nat) : mulF Pr P fr e st v (fr + v) = Pr (fr + v) := by
  unfold mulF
  rw [if_neg (by omega)]
theorem mulF_s (Pr P : Nat → Nat) (fr e st v : Nat) : va_up (mulF Pr P fr e st v) (fr + v) (Pr (fr + v) * P (e + v * st)) = mulF Pr P fr e st (v + 1) := by
  funext j
  unfold va_up mulF
  by_cases h : j = fr + v
  · subst h
    rw [if_pos rfl, if_pos (by omega), show fr + v - fr = v by omega]
  · rw [if_neg h]
    by_cases h2 : fr ≤ j ∧ j < fr + v
    · rw [if_pos h2, if_pos (by omega)]
    · rw [if_neg h2, if_neg (by omega)]
