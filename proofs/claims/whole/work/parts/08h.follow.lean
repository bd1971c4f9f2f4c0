-- LEVEL 2, the best of all orders: which names it takes
theorem lwS_cg {L F H : Nat → Nat} {n out : Nat} : ∀ m, m ≤ n → (∀ a, a < n → out.testBit a = false → F (out ||| 2 ^ a) = H (out ||| 2 ^ a)) → lwS L F n out m = lwS L H n out m
  | 0, _, _ => rfl
  | m + 1, hm, h => by
    have ih := lwS_cg (L := L) m (by omega) h
    cases hb : out.testBit m
    · rw [lwS_i hb, lwS_i hb, ih, h m (by omega) hb]
    · rw [lwS_o hb, lwS_o hb, ih]
theorem lwA_st {L Le : Nat → Nat} {n : Nat} : ∀ j k i, 2 ^ n - 1 - j ≤ i → j + k ≤ 2 ^ n - 1 → lwA L Le n (j + k) i = lwA L Le n j i
  | _, 0, _, _, _ => rfl
  | j, k + 1, i, h, hk => by
    show lwA L Le n (j + k + 1) i = _
    simp only [lwA]
    rw [va_up_ne _ _ (by omega)]
    exact lwA_st j k i h (by omega)
theorem lwA_fix {L Le : Nat → Nat} {n o : Nat} (ho : o < 2 ^ n - 1) : lwA L Le n (2 ^ n - 1) o = lwS L (lwA L Le n (2 ^ n - 1)) n o n := by
  have e1 : lwA L Le n (2 ^ n - 1) o = lwA L Le n (2 ^ n - 1 - 1 - o + 1) o := by
    have := lwA_st (L := L) (Le := Le) (n := n) (2 ^ n - 1 - 1 - o + 1) o o (by omega) (by omega)
    rw [show 2 ^ n - 1 - 1 - o + 1 + o = 2 ^ n - 1 by omega] at this
    exact this
  rw [e1]
  simp only [lwA]
  rw [show 2 ^ n - 1 - 1 - (2 ^ n - 1 - 1 - o) = o by omega, va_up_self]
  refine lwS_cg n (Nat.le_refl n) (fun a ha hf => ?_)
  have hg := or_gt hf
  have hl : o ||| 2 ^ a < 2 ^ n := or_lt2 (by omega) (pw_lt2 ha)
  have := lwA_st (L := L) (Le := Le) (n := n) (2 ^ n - 1 - 1 - o) (o + 1) (o ||| 2 ^ a) (by omega) (by omega)
  rw [show 2 ^ n - 1 - 1 - o + (o + 1) = 2 ^ n - 1 by omega] at this
  exact this.symm
theorem lwS_hit {L F : Nat → Nat} {n out : Nat} : ∀ m, lwS L F n out m = 101 ∨ ∃ a, a < m ∧ out.testBit a = false ∧ max (popc (mbF L n a out)) (F (out ||| 2 ^ a)) ≤ lwS L F n out m
  | 0 => Or.inl rfl
  | m + 1 => by
    have ih := lwS_hit (L := L) (F := F) (n := n) (out := out) m
    cases hb : out.testBit m
    · rw [lwS_i hb]
      rcases Nat.lt_or_ge (lwS L F n out m) (max (popc (mbF L n m out)) (F (out ||| 2 ^ m))) with q | q
      · rw [Nat.min_eq_left (by omega)]
        rcases ih with h | ⟨a, h1, h2, h3⟩
        · exact Or.inl h
        · exact Or.inr ⟨a, by omega, h2, h3⟩
      · exact Or.inr ⟨m, by omega, hb, by rw [Nat.min_eq_right q]; exact Nat.le_refl _⟩
    · rw [lwS_o hb]
      rcases ih with h | ⟨a, h1, h2, h3⟩
      · exact Or.inl h
      · exact Or.inr ⟨a, by omega, h2, h3⟩
/-- where the width can be kept there is an order -/
theorem nz_all {V L Le Ch : Nat → Nat} {n wd : Nat} (hw : wd ≤ 12) : ∀ t o, o + t = 2 ^ n - 1 → lwA L Le n (2 ^ n - 1) o ≤ wd → chA V L Ch n wd (2 ^ n - 1) o ≠ 0 := by
  intro t
  induction t using Nat.strongRecOn with
  | _ t ih =>
    intro o ho hl
    by_cases q : o = 2 ^ n - 1
    · have e : chA V L Ch n wd (2 ^ n - 1) o = 1 := by
        have := chA_st (V := V) (L := L) (Ch := Ch) (n := n) (wd := wd) 0 (2 ^ n - 1) o (by omega) (by omega)
        rw [Nat.zero_add] at this
        rw [this, q]
        exact va_up_self _ _ _
      rw [e]
      decide
    · have hlt : o < 2 ^ n - 1 := by omega
      rw [lwA_fix hlt] at hl
      rcases lwS_hit (L := L) (F := lwA L Le n (2 ^ n - 1)) (n := n) (out := o) n with h | ⟨a, h1, h2, h3⟩
      · rw [h] at hl; omega
      · have hg := or_gt h2
        have hb : o ||| 2 ^ a < 2 ^ n := or_lt2 (by omega) (pw_lt2 h1)
        have hc := ih (2 ^ n - 1 - (o ||| 2 ^ a)) (by omega) (o ||| 2 ^ a) (by omega) (by omega)
        rw [chA_fix hlt]
        rcases chS_hit (V := V) (L := L) (F := chA V L Ch n wd (2 ^ n - 1)) (n := n) (wd := wd) (out := o) n with ⟨g0, g1⟩ | ⟨b, -, -, -, g4⟩
        · have := g1 a h1 h2
          rw [pcF_y (fun z => z.elim (fun z => by omega) hc)] at this
          omega
        · exact g4
theorem fn5_cg {P Q0 : Nat → Bool} : ∀ k a, (∀ b, a ≤ b → b < a + k → P b = Q0 b) → fn5 P k a = fn5 Q0 k a
  | 0, _, _ => rfl
  | k + 1, a, h => by
    simp only [fn5]
    rw [h a (Nat.le_refl a) (by omega), fn5_cg k (a + 1) (fun b h1 h2 => h b (by omega) (by omega))]
theorem fn5_hit {P : Nat → Bool} : ∀ k a, (∃ b, a ≤ b ∧ b < a + k ∧ P b = true) → a ≤ fn5 P k a ∧ fn5 P k a < a + k ∧ P (fn5 P k a) = true
  | 0, a, ⟨b, h1, h2, _⟩ => absurd h2 (by omega)
  | k + 1, a, ⟨b, h1, h2, h3⟩ => by
    cases hp : P a
    · rw [fn5_n hp]
      have ih := fn5_hit (P := P) k (a + 1) ⟨b, by
        rcases Nat.lt_or_ge a b with q | q
        · exact q
        · rw [show b = a by omega, hp] at h3
          exact absurd h3 (by decide), by omega, h3⟩
      exact ⟨by omega, by omega, ih.2.2⟩
    · rw [fn5_y hp]
      exact ⟨Nat.le_refl a, by omega, hp⟩
/-- at a set from which the width can be kept both pick the same name -/
theorem cd_eq {Nb V L Lc F H : Nat → Nat} {n wd o a : Nat} (hG : grOk Nb n) (hV : ∀ j, V j ≤ 4) (h : ∀ b, b < n → L b = Nb b) (hL : ∀ S, S < 2 ^ n → Lc S = cellsF V S n) (ha : a < n) (hr : ∀ a, a < n → o.testBit a = false → rlC n (F (o ||| 2 ^ a)) (H (o ||| 2 ^ a)) (o ||| 2 ^ a)) (ho : rlC n (F o) (H o) o) (hz : F o ≠ 0) : cd5 V L F n wd o a = cdC Nb Lc H n wd o a := by
  unfold cd5 cdC
  cases hb : o.testBit a
  · have hbd := rl_b (n := n) (k := popP o n) hG.1
    rcases ho with ⟨z, -⟩ | ⟨-, o2, o3⟩
    · exact absurd z hz
    · rw [o2]
      rcases pc_cf (wd := wd) hG hV h hL ha hb (hr a ha hb) with ⟨p1, p2⟩ | ⟨p1, p2, p3⟩
      · rw [p1, decide_eq_false (fun q => hz q.symm), decide_eq_false (by omega)]
      · rw [p2]
  · rfl
