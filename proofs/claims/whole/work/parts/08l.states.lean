-- LEVEL 2, states: the walk in one row
theorem foV_app {α : Type} {f : Nat → α → α} {k : Nat} : ∀ m t, foV f (k + m) t = foV (fun v t => f (k + v) t) m (foV f k t)
  | 0, _ => rfl
  | m + 1, t => by
    show f (k + m) (foV f (k + m) t) = f (k + m) (foV (fun v t => f (k + v) t) m (foV f k t))
    rw [foV_app m t]
theorem foV_mul {α : Type} {f : Nat → α → α} {P : Nat} : ∀ k t, foV f (k * P) t = foV (fun v t => foV (fun y t => f (v * P + y) t) P t) k t
  | 0, t => by rw [Nat.zero_mul]; rfl
  | k + 1, t => by
    rw [Nat.add_mul, Nat.one_mul, foV_app, foV_mul k t]
    rfl
theorem foV_id {α : Type} {f : Nat → α → α} (h : ∀ v t, f v t = t) : ∀ k t, foV f k t = t
  | 0, _ => rfl
  | k + 1, t => by
    show f k (foV f k t) = t
    rw [h, foV_id h k t]
/-- the product of a state of what is left, by its number there -/
def wsF (X : Nat → fR) (Lc : Nat → List Nat) (V Bd : Nat → Nat) : Nat → Nat → (Nat → Nat) → Nat → Nat → Nat
  | 0, _, _, p, _ => p
  | d + 1, a, C, p, y => wsF X Lc V Bd d (a + 1) (va_up C a (y / prV V (a + 1) d)) (pvF X Lc Bd C a p (y / prV V (a + 1) d)) (y % prV V (a + 1) d)
theorem wsF_0 {X : Nat → fR} {Lc : Nat → List Nat} {V Bd : Nat → Nat} : ∀ d a (C : Nat → Nat) y, wsF X Lc V Bd d a C 0 y = 0
  | 0, _, _, _ => rfl
  | d + 1, a, C, y => by
    simp only [wsF]
    have : pvF X Lc Bd C a 0 (y / prV V (a + 1) d) = 0 := by
      unfold pvF
      rw [show bsG Bd a 0 (y / prV V (a + 1) d) = 0 from Nat.le_zero.mp bsG_le, Nat.zero_mul]
    rw [this]
    exact wsF_0 d (a + 1) _ _
theorem prV_pos {V : Nat → Nat} : ∀ a d, (∀ j, a ≤ j → j < a + d → 0 < V j) → 0 < prV V a d
  | _, 0, _ => Nat.one_pos
  | a, d + 1, h => Nat.mul_pos (h a (Nat.le_refl a) (by omega)) (prV_pos (a + 1) d (fun j h1 h2 => h j (by omega) (by omega)))
/-- the walk below a set of choices is the row of its states, the empty ones left out -/
theorem chF_row {X : Nat → fR} {Lc : Nat → List Nat} {V Bd : Nat → Nat} : ∀ d a (C : Nat → Nat) x p t, p ≠ 0 → (∀ j, a ≤ j → j < a + d → 0 < V j) →
    chF X Lc V Bd d a C x p t = foV (fun y t => if wsF X Lc V Bd d a C p y = 0 then t else kpW (x * prV V a d + y) (wsF X Lc V Bd d a C p y) t) (prV V a d) t
  | 0, a, C, x, p, t, hp, _ => by
    show kpW x p t = if p = 0 then t else kpW (x * 1 + 0) p t
    rw [if_neg hp, Nat.mul_one, Nat.add_zero]
  | d + 1, a, C, x, p, t, hp, hV => by
    have hP := prV_pos (V := V) (a + 1) d (fun j h1 h2 => hV j (by omega) (by omega))
    show chF X Lc V Bd (d + 1) a C x p t = foV _ (V a * prV V (a + 1) d) t
    rw [foV_mul]
    simp only [chF]
    refine foV_cg _ (fun v hv t => ?_) t
    have e1 : ∀ y, y < prV V (a + 1) d → (v * prV V (a + 1) d + y) / prV V (a + 1) d = v ∧ (v * prV V (a + 1) d + y) % prV V (a + 1) d = y := fun y hy => by
      refine ⟨?_, ?_⟩
      · rw [Nat.mul_comm, Nat.mul_add_div hP, Nat.div_eq_of_lt hy, Nat.add_zero]
      · rw [Nat.mul_comm, Nat.mul_add_mod, Nat.mod_eq_of_lt hy]
    have e2 : ∀ y, y < prV V (a + 1) d → wsF X Lc V Bd (d + 1) a C p (v * prV V (a + 1) d + y) = wsF X Lc V Bd d (a + 1) (va_up C a v) (pvF X Lc Bd C a p v) y := fun y hy => by
      simp only [wsF]
      rw [(e1 y hy).1, (e1 y hy).2]
    by_cases q : pvF X Lc Bd C a p v = 0
    · rw [if_pos q]
      refine (Eq.trans (foV_cg (g := fun _ t => t) _ (fun y hy t => ?_) t) (foV_id (fun _ _ => rfl) _ t)).symm
      rw [e2 y hy, q, wsF_0, if_pos rfl]
    · rw [if_neg q, chF_row d (a + 1) (va_up C a v) (x * V a + v) (pvF X Lc Bd C a p v) t q (fun j h1 h2 => hV j (by omega) (by omega))]
      refine foV_cg _ (fun y hy t => ?_) t
      have e3 : x * prV V a (d + 1) + (v * prV V (a + 1) d + y) = (x * V a + v) * prV V (a + 1) d + y := by
        show x * (V a * prV V (a + 1) d) + (v * prV V (a + 1) d + y) = _
        rw [Nat.add_mul, Nat.mul_assoc]
        omega
      rw [e2 y hy, e3]
