-- the best of all orders: which names it takes
def fn5 (P : Nat → Bool) : Nat → Nat → Nat
  | 0, a => a
  | k + 1, a => if P a then a else fn5 P k (a + 1)
theorem fn5_y {P : Nat → Bool} {k a : Nat} (h : P a = true) : fn5 P (k + 1) a = a := by simp [fn5, h]
theorem fn5_n {P : Nat → Bool} {k a : Nat} (h : P a = false) : fn5 P (k + 1) a = fn5 P k (a + 1) := by simp [fn5, h]
def cd5 (V L Ch : Nat → Nat) (n wd o a : Nat) : Bool := !o.testBit a && decide (pcF V L n wd Ch a o = Ch o)
def ob5 (V L Ch Od : Nat → Nat) (n wd : Nat) : Nat → Nat × (Nat → Nat)
  | 0 => (0, Od)
  | i + 1 => ((ob5 V L Ch Od n wd i).1 ||| 2 ^ fn5 (cd5 V L Ch n wd (ob5 V L Ch Od n wd i).1) n 0, va_up (ob5 V L Ch Od n wd i).2 i (fn5 (cd5 V L Ch n wd (ob5 V L Ch Od n wd i).1) n 0))
theorem rowF_idem (f g : Nat → Nat) (n : Nat) : rowF (rowF f g n) g n = rowF f g n := by
  funext j
  unfold rowF
  by_cases h : j < n
  · rw [if_pos h, if_pos h]
  · rw [if_neg h]
theorem va_up_same (f : Nat → Nat) (i : Nat) : va_up f i (f i) = f := by
  funext j
  unfold va_up
  by_cases h : j = i
  · rw [if_pos h, h]
  · rw [if_neg h]
theorem chS_hit {V L F : Nat → Nat} {n wd out : Nat} : ∀ i, (chS V L F n wd out i = 0 ∧ ∀ a, a < i → out.testBit a = false → pcF V L n wd F a out = 0) ∨ (∃ a, a < i ∧ out.testBit a = false ∧ pcF V L n wd F a out = chS V L F n wd out i ∧ chS V L F n wd out i ≠ 0)
  | 0 => Or.inl ⟨rfl, fun _ h => absurd h (Nat.not_lt_zero _)⟩
  | i + 1 => by
    cases hb : out.testBit i
    · by_cases hc : pcF V L n wd F i out ≠ 0 ∧ (chS V L F n wd out i = 0 ∨ pcF V L n wd F i out < chS V L F n wd out i)
      · rw [chS_y hb hc]
        exact Or.inr ⟨i, by omega, hb, rfl, hc.1⟩
      · rw [chS_n hb hc]
        rcases chS_hit (V := V) (L := L) (F := F) (n := n) (wd := wd) (out := out) i with ⟨h0, h1⟩ | ⟨a, h1, h2, h3, h4⟩
        · refine Or.inl ⟨h0, fun a ha hf => ?_⟩
          rcases Nat.lt_or_ge a i with q | q
          · exact h1 a q hf
          · rw [show a = i by omega]
            exact Classical.byContradiction fun z => hc ⟨z, Or.inl h0⟩
        · exact Or.inr ⟨a, by omega, h2, h3, h4⟩
    · rw [chS_o hb]
      rcases chS_hit (V := V) (L := L) (F := F) (n := n) (wd := wd) (out := out) i with ⟨h0, h1⟩ | ⟨a, h1, h2, h3, h4⟩
      · refine Or.inl ⟨h0, fun a ha hf => ?_⟩
        rcases Nat.lt_or_ge a i with q | q
        · exact h1 a q hf
        · rw [show a = i by omega, hb] at hf
          exact absurd hf (by decide)
      · exact Or.inr ⟨a, by omega, h2, h3, h4⟩
theorem chS_cg {V L F G : Nat → Nat} {n wd out : Nat} : ∀ i, i ≤ n → (∀ a, a < n → out.testBit a = false → F (out ||| 2 ^ a) = G (out ||| 2 ^ a)) → chS V L F n wd out i = chS V L G n wd out i
  | 0, _, _ => rfl
  | i + 1, hi, h => by
    have ih := chS_cg (V := V) (L := L) (wd := wd) i (by omega) h
    cases hb : out.testBit i
    · have hp : pcF V L n wd F i out = pcF V L n wd G i out := pcF_congr (h i (by omega) hb)
      simp only [chS, hb, ih, hp]
    · rw [chS_o hb, chS_o hb, ih]
/-- behind j steps the places from the top down to 2^n - 1 - j are settled -/
theorem chA_st {V L Ch : Nat → Nat} {n wd : Nat} : ∀ j k i, 2 ^ n - 1 - j ≤ i → j + k ≤ 2 ^ n - 1 → chA V L Ch n wd (j + k) i = chA V L Ch n wd j i
  | _, 0, _, _, _ => rfl
  | j, k + 1, i, h, hk => by
    show chA V L Ch n wd (j + k + 1) i = _
    simp only [chA]
    rw [va_up_ne _ _ (by omega)]
    exact chA_st j k i h (by omega)
theorem chA_fix {V L Ch : Nat → Nat} {n wd o : Nat} (ho : o < 2 ^ n - 1) : chA V L Ch n wd (2 ^ n - 1) o = chS V L (chA V L Ch n wd (2 ^ n - 1)) n wd o n := by
  have e1 : chA V L Ch n wd (2 ^ n - 1) o = chA V L Ch n wd (2 ^ n - 1 - 1 - o + 1) o := by
    have := chA_st (V := V) (L := L) (Ch := Ch) (n := n) (wd := wd) (2 ^ n - 1 - 1 - o + 1) o o (by omega) (by omega)
    rw [show 2 ^ n - 1 - 1 - o + 1 + o = 2 ^ n - 1 by omega] at this
    exact this
  rw [e1]
  simp only [chA]
  rw [show 2 ^ n - 1 - 1 - (2 ^ n - 1 - 1 - o) = o by omega, va_up_self]
  refine chS_cg n (Nat.le_refl n) (fun a ha hf => ?_)
  have hg := or_gt hf
  have hl : o ||| 2 ^ a < 2 ^ n := or_lt2 (by omega) (pw_lt2 ha)
  have := chA_st (V := V) (L := L) (Ch := Ch) (n := n) (wd := wd) (2 ^ n - 1 - 1 - o) (o + 1) (o ||| 2 ^ a) (by omega) (by omega)
  rw [show 2 ^ n - 1 - 1 - o + (o + 1) = 2 ^ n - 1 by omega] at this
  exact this.symm
theorem cd5_ex {V L Ch : Nat → Nat} {n wd o : Nat} (ho : o < 2 ^ n - 1) (hp : ∃ a, a < n ∧ o.testBit a = false) : ∃ b, b < n ∧ cd5 V L (chA V L Ch n wd (2 ^ n - 1)) n wd o b = true := by
  have hx := chA_fix (V := V) (L := L) (Ch := Ch) (wd := wd) ho
  rcases chS_hit (V := V) (L := L) (F := chA V L Ch n wd (2 ^ n - 1)) (n := n) (wd := wd) (out := o) n with ⟨h0, h1⟩ | ⟨a, h1, h2, h3, -⟩
  · obtain ⟨a, ha, hf⟩ := hp
    refine ⟨a, ha, ?_⟩
    unfold cd5
    rw [hf, h1 a ha hf, hx, h0]
    rfl
  · refine ⟨a, h1, ?_⟩
    unfold cd5
    rw [h2, h3, ← hx]
    simp
theorem cd5_t {V L Ch : Nat → Nat} {n wd o a : Nat} (h1 : o.testBit a = false) (h2 : pcF V L n wd Ch a o = Ch o) : cd5 V L Ch n wd o a = true := by
  unfold cd5
  rw [h1, h2]
  simp
theorem cd5_f1 {V L Ch : Nat → Nat} {n wd o a : Nat} (h1 : o.testBit a = true) : cd5 V L Ch n wd o a = false := by
  unfold cd5
  rw [h1]
  rfl
theorem cd5_f2 {V L Ch : Nat → Nat} {n wd o a : Nat} (h2 : pcF V L n wd Ch a o ≠ Ch o) : cd5 V L Ch n wd o a = false := by
  unfold cd5
  rw [decide_eq_false h2]
  simp
theorem ex_up {P : Nat → Bool} {a n : Nat} (h : ∃ b, a ≤ b ∧ b < n ∧ P b = true) (hf : P a = false) : ∃ b, a + 1 ≤ b ∧ b < n ∧ P b = true := by
  obtain ⟨b, h1, h2, h3⟩ := h
  refine ⟨b, ?_, h2, h3⟩
  rcases Nat.lt_or_ge a b with q | q
  · exact q
  · rw [show b = a by omega, hf] at h3
    exact absurd h3 (by decide)
/-- a set with fewer than n names below n isn't all -/
theorem pop_all {n : Nat} : ∀ i, i ≤ n → popP (2 ^ n - 1) i = i
  | 0, _ => rfl
  | i + 1, h => by
    simp only [popP]
    rw [pop_all i (by omega), bitN_1.mpr (by rw [Nat.testBit_two_pow_sub_one]; simp; omega)]
