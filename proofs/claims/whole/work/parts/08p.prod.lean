-- LEVEL 2, a state's product by its values
def tpF (X : Nat → fR) (Lc : Nat → List Nat) (Bd D : Nat → Nat) : Nat → Nat → Nat → Nat
  | 0, _, p => p
  | d + 1, a, p => tpF X Lc Bd D d (a + 1) (pvF X Lc Bd D a p (D a))
theorem ws_tp {X : Nat → fR} {Lc : Nat → List Nat} {V Bd D : Nat → Nat} {n : Nat} (hN : nlOk X Lc n) : ∀ d a (C : Nat → Nat) p y, a + d = n → y < prV V a d → (∀ j, a ≤ j → j < a + d → 0 < V j) → (∀ j, j < a → C j = D j) → (∀ j, a ≤ j → j < a + d → D j = y / prV V (j + 1) (a + d - (j + 1)) % V j) → wsF X Lc V Bd d a C p y = tpF X Lc Bd D d a p
  | 0, _, _, _, _, _, _, _, _, _ => rfl
  | d + 1, a, C, p, y, hd, hy, hV, hC, hD => by
    have hP := prV_pos (V := V) (a + 1) d (fun j h1 h2 => hV j (by omega) (by omega))
    have hlt : y / prV V (a + 1) d < V a := (Nat.div_lt_iff_lt_mul hP).mpr hy
    have hv : D a = y / prV V (a + 1) d := by
      rw [hD a (Nat.le_refl a) (by omega), show a + (d + 1) - (a + 1) = d by omega, Nat.mod_eq_of_lt hlt]
    simp only [wsF, tpF]
    rw [← hv, pvF_cg hN (by omega) hC]
    refine ws_tp hN d (a + 1) _ _ _ (by omega) (Nat.mod_lt _ hP) (fun j h1 h2 => hV j (by omega) (by omega)) (fun j hj => ?_) (fun j h1 h2 => ?_)
    · by_cases q : j = a
      · rw [q, va_up_self]
      · rw [va_up_ne _ _ q, hC j (by omega)]
    · rw [dig_mod (by omega) (by omega), hD j (by omega) (by omega), show a + 1 + d = a + (d + 1) by omega]
/-- the product without the evidence -/
def tqF (X : Nat → fR) (Lc : Nat → List Nat) (D : Nat → Nat) : Nat → Nat → Nat
  | 0, _ => 1
  | d + 1, a => lvP X (va_up D a 0) (D a) (Lc (a + 1)) * tqF X Lc D d (a + 1)
theorem tp_0 {X : Nat → fR} {Lc : Nat → List Nat} {Bd D : Nat → Nat} : ∀ d a, tpF X Lc Bd D d a 0 = 0
  | 0, _ => rfl
  | d + 1, a => by
    simp only [tpF]
    have : pvF X Lc Bd D a 0 (D a) = 0 := by
      unfold pvF
      rw [show bsG Bd a 0 (D a) = 0 from Nat.le_zero.mp bsG_le, Nat.zero_mul]
    rw [this]
    exact tp_0 d (a + 1)
theorem tp_ev {X : Nat → fR} {Lc : Nat → List Nat} {Bd D : Nat → Nat} : ∀ d a p, (∀ j, a ≤ j → j < a + d → Bd j = 0 ∨ Bd j = D j + 1) → tpF X Lc Bd D d a p = p * tqF X Lc D d a
  | 0, _, p, _ => (Nat.mul_one p).symm
  | d + 1, a, p, h => by
    simp only [tpF, tqF]
    rw [tp_ev d (a + 1) _ (fun j h1 h2 => h j (by omega) (by omega))]
    unfold pvF
    rw [bsG_t (h a (Nat.le_refl a) (by omega)), Nat.mul_assoc]
theorem tp_no {X : Nat → fR} {Lc : Nat → List Nat} {Bd D : Nat → Nat} : ∀ d a p, (¬ ∀ j, a ≤ j → j < a + d → Bd j = 0 ∨ Bd j = D j + 1) → tpF X Lc Bd D d a p = 0
  | 0, _, _, h => absurd (fun j h1 h2 => absurd h2 (by omega)) h
  | d + 1, a, p, h => by
    simp only [tpF]
    by_cases q : Bd a = 0 ∨ Bd a = D a + 1
    · refine tp_no d (a + 1) _ (fun z => h (fun j h1 h2 => ?_))
      by_cases e : j = a
      · rw [e]; exact q
      · exact z j (by omega) (by omega)
    · have : pvF X Lc Bd D a p (D a) = 0 := by
        unfold pvF
        rw [bsG_f q, Nat.zero_mul]
      rw [this]
      exact tp_0 d (a + 1)
