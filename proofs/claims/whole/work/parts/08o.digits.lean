-- LEVEL 2, a state's values by its number
theorem rest_pr {V : Nat → Nat} {n x : Nat} : ∀ k, k ≤ n → restF V n x k = x / prV V (n - k) k
  | 0, _ => (Nat.div_one x).symm
  | k + 1, h => by
    show restF V n x k / V (n - 1 - k) = _
    rw [rest_pr k (by omega), Nat.div_div_eq_div_mul, show n - 1 - k = n - (k + 1) by omega]
    show _ = x / (V (n - (k + 1)) * prV V (n - (k + 1) + 1) k)
    rw [show n - (k + 1) + 1 = n - k by omega, Nat.mul_comm]
theorem val_pr {V : Nat → Nat} {n x a : Nat} (ha : a < n) : valF V n x a = x / prV V (a + 1) (n - (a + 1)) % V a := by
  rw [valF_eq, rest_pr _ (by omega), show n - (n - (a + 1)) = a + 1 by omega]
theorem prV_split {V : Nat → Nat} : ∀ d a e, prV V a (d + e) = prV V a d * prV V (a + d) e
  | 0, a, e => by rw [Nat.zero_add]; show _ = 1 * prV V (a + 0) e; rw [Nat.one_mul, Nat.add_zero]
  | d + 1, a, e => by
    rw [show d + 1 + e = (d + e) + 1 by omega]
    show V a * prV V (a + 1) (d + e) = V a * prV V (a + 1) d * prV V (a + (d + 1)) e
    rw [prV_split d (a + 1) e, show a + 1 + d = a + (d + 1) by omega, Nat.mul_assoc]
/-- the values of the later names don't see what stands before them -/
theorem dig_mod {V : Nat → Nat} {a d j y : Nat} (h1 : a ≤ j) (h2 : j < a + d) : y % prV V a d / prV V (j + 1) (a + d - (j + 1)) % V j = y / prV V (j + 1) (a + d - (j + 1)) % V j := by
  have e : prV V a d = prV V (j + 1) (a + d - (j + 1)) * (prV V a (j - a) * V j) := by
    have s1 := prV_split (V := V) (j - a) a (d - (j - a))
    rw [show j - a + (d - (j - a)) = d by omega, show a + (j - a) = j by omega] at s1
    rw [s1, show d - (j - a) = (a + d - (j + 1)) + 1 by omega]
    show prV V a (j - a) * (V j * prV V (j + 1) (a + d - (j + 1))) = _
    rw [← Nat.mul_assoc, Nat.mul_comm]
  rw [e, Nat.mod_mul_right_div_self, Nat.mod_mod_of_dvd _ (Nat.dvd_mul_left _ _)]
theorem mt_dig {V Cg : Nat → Nat} : ∀ d a y, y < prV V a d → (∀ j, a ≤ j → j < a + d → 0 < V j) → (mtG V Cg d a y = true ↔ ∀ j, a ≤ j → j < a + d → Cg j = 0 ∨ Cg j = y / prV V (j + 1) (a + d - (j + 1)) % V j + 1)
  | 0, a, y, _, _ => ⟨fun _ j h1 h2 => absurd h2 (by omega), fun _ => rfl⟩
  | d + 1, a, y, hy, hV => by
    have hP := prV_pos (V := V) (a + 1) d (fun j h1 h2 => hV j (by omega) (by omega))
    have ih := mt_dig (Cg := Cg) d (a + 1) (y % prV V (a + 1) d) (Nat.mod_lt _ hP) (fun j h1 h2 => hV j (by omega) (by omega))
    have hd : y / prV V (a + 1) d < V a := (Nat.div_lt_iff_lt_mul hP).mpr hy
    simp only [mtG]
    rw [Bool.and_eq_true, Bool.or_eq_true, decide_eq_true_iff, decide_eq_true_iff, ih]
    constructor
    · rintro ⟨h1, h2⟩ j h3 h4
      by_cases q : j = a
      · subst q
        rw [show j + (d + 1) - (j + 1) = d by omega, Nat.mod_eq_of_lt hd]
        exact h1
      · have := h2 j (by omega) (by omega)
        rw [dig_mod (by omega) (by omega), show a + 1 + d = a + (d + 1) by omega] at this
        exact this
    · intro h
      refine ⟨?_, fun j h3 h4 => ?_⟩
      · have := h a (Nat.le_refl a) (by omega)
        rw [show a + (d + 1) - (a + 1) = d by omega, Nat.mod_eq_of_lt hd] at this
        exact this
      · rw [dig_mod (by omega) (by omega), show a + 1 + d = a + (d + 1) by omega]
        exact h j (by omega) (by omega)
