-- LEVEL 2, gathering in one row
theorem gaV_fo {f : Nat → Nat × Nat → Nat × Nat} : ∀ k t, gaV f k t = foV f k t
  | 0, _ => rfl
  | k + 1, t => by
    show f k (gaV f k t) = f k (foV f k t)
    rw [gaV_fo k t]
theorem foV_one {α : Type} {f : Nat → α → α} {v0 : Nat} (h : ∀ v t, v ≠ v0 → f v t = t) : ∀ k t, foV f k t = if v0 < k then f v0 t else t
  | 0, _ => rfl
  | k + 1, t => by
    show f k (foV f k t) = _
    rw [foV_one h k t]
    rcases Nat.lt_trichotomy v0 k with q | q | q
    · rw [if_pos q, if_pos (by omega), h k _ (by omega)]
    · rw [if_neg (by omega), if_pos (by omega), q]
    · rw [if_neg (by omega), if_neg (by omega), h k t (by omega)]
/-- whether a state of what is left has the values told -/
def mtG (V Cg : Nat → Nat) : Nat → Nat → Nat → Bool
  | 0, _, _ => true
  | d + 1, a, y => (decide (Cg a = 0) || decide (Cg a = y / prV V (a + 1) d + 1)) && mtG V Cg d (a + 1) (y % prV V (a + 1) d)
theorem gaF_row {V Cg BS : Nat → Nat} : ∀ d a x t, (∀ j, a ≤ j → j < a + d → 0 < V j ∧ Cg j ≤ V j) →
    gaF V Cg BS d a x t = foV (fun y t => if mtG V Cg d a y = true ∧ BS (x * prV V a d + y) ≠ 0 then (t.1 + BS (x * prV V a d + y), t.2 + 1) else t) (prV V a d) t
  | 0, a, x, t, _ => by
    show (if BS x = 0 then t else (t.1 + BS x, t.2 + 1)) = if true = true ∧ BS (x * 1 + 0) ≠ 0 then (t.1 + BS (x * 1 + 0), t.2 + 1) else t
    rw [show x * 1 + 0 = x by omega]
    by_cases q : BS x = 0
    · rw [if_pos q, if_neg (fun z => z.2 q)]
    · rw [if_neg q, if_pos ⟨rfl, q⟩]
  | d + 1, a, x, t, hV => by
    have hP := prV_pos (V := V) (a + 1) d (fun j h1 h2 => (hV j (by omega) (by omega)).1)
    have e1 : ∀ v y, y < prV V (a + 1) d → (v * prV V (a + 1) d + y) / prV V (a + 1) d = v ∧ (v * prV V (a + 1) d + y) % prV V (a + 1) d = y := fun v y hy => by
      refine ⟨?_, ?_⟩
      · rw [Nat.mul_comm, Nat.mul_add_div hP, Nat.div_eq_of_lt hy, Nat.add_zero]
      · rw [Nat.mul_comm, Nat.mul_add_mod, Nat.mod_eq_of_lt hy]
    have e3 : ∀ v y, x * prV V a (d + 1) + (v * prV V (a + 1) d + y) = (x * V a + v) * prV V (a + 1) d + y := fun v y => by
      show x * (V a * prV V (a + 1) d) + (v * prV V (a + 1) d + y) = _
      rw [Nat.add_mul, Nat.mul_assoc]
      omega
    have e4 : ∀ v t, foV (fun y t => if mtG V Cg (d + 1) a (v * prV V (a + 1) d + y) = true ∧ BS (x * prV V a (d + 1) + (v * prV V (a + 1) d + y)) ≠ 0 then (t.1 + BS (x * prV V a (d + 1) + (v * prV V (a + 1) d + y)), t.2 + 1) else t) (prV V (a + 1) d) t = if Cg a = 0 ∨ Cg a = v + 1 then gaF V Cg BS d (a + 1) (x * V a + v) t else t := fun v t => by
      by_cases q : Cg a = 0 ∨ Cg a = v + 1
      · rw [if_pos q, gaF_row d (a + 1) (x * V a + v) t (fun j h1 h2 => hV j (by omega) (by omega))]
        refine foV_cg _ (fun y hy t => ?_) t
        have e5 : mtG V Cg (d + 1) a (v * prV V (a + 1) d + y) = mtG V Cg d (a + 1) y := by
          simp only [mtG]
          rw [(e1 v y hy).1, (e1 v y hy).2]
          rcases q with q | q <;> simp [q]
        rw [e5, e3]
      · rw [if_neg q]
        refine Eq.trans (foV_cg (g := fun _ t => t) _ (fun y hy t => ?_) t) (foV_id (fun _ _ => rfl) _ t)
        have e5 : mtG V Cg (d + 1) a (v * prV V (a + 1) d + y) = false := by
          simp only [mtG]
          rw [(e1 v y hy).1, decide_eq_false (fun z => q (Or.inl z)), decide_eq_false (fun z => q (Or.inr z))]
          rfl
        rw [if_neg (fun z => by rw [e5] at z; exact absurd z.1 (by decide))]
    show gaF V Cg BS (d + 1) a x t = foV _ (V a * prV V (a + 1) d) t
    rw [foV_mul, foV_cg (V a) (fun v _ t => e4 v t) t]
    by_cases q : Cg a = 0
    · rw [gaF_l q, gaV_fo]
      refine foV_cg _ (fun v _ t => ?_) t
      rw [if_pos (Or.inl q)]
    · have hc := (hV a (Nat.le_refl a) (by omega)).2
      rw [gaF_c q, foV_one (v0 := Cg a - 1) (fun v t hv => if_neg (fun z => z.elim q (fun z => hv (by omega)))) (V a) t, if_pos (by omega), if_pos (Or.inr (by omega))]
