-- order
def mtF (Pl : Nat → Nat) (n : Nat) : Nat → Nat
  | 0 => 0
  | i + 1 => if Pl i ≠ 0 ∧ Pl i ≤ n then mtF Pl n i ||| 2 ^ (Pl i - 1) else mtF Pl n i
theorem mtF_t {Pl : Nat → Nat} {n i p : Nat} (h : Pl i = p + 1) (h2 : p < n) : mtF Pl n (i + 1) = mtF Pl n i ||| 2 ^ p := by
  simp only [mtF]
  rw [if_pos (by omega), h, Nat.add_sub_cancel]
theorem mtF_f {Pl : Nat → Nat} {n i : Nat} (h : ¬ (Pl i ≠ 0 ∧ Pl i ≤ n)) : mtF Pl n (i + 1) = mtF Pl n i := by
  simp only [mtF]
  rw [if_neg h]
theorem mtF_lt {Pl : Nat → Nat} {n : Nat} : ∀ i, mtF Pl n i < 2 ^ n
  | 0 => Nat.pow_pos (by decide)
  | i + 1 => by
    by_cases h : Pl i ≠ 0 ∧ Pl i ≤ n
    · simp only [mtF]
      rw [if_pos h]
      exact or_lt2 (mtF_lt i) (pw_lt2 (by omega))
    · rw [mtF_f h]; exact mtF_lt i
theorem kn_m {k n : Nat} (hk : k < 2 ^ 30) (hn : n < 2 ^ 30) : knP (mI k) n ↔ (k ≠ 0 ∧ k ≤ n) := by
  unfold knP
  rw [Int32.lt_iff_toInt_lt, Int32.le_iff_toInt_le, mI_toInt hk, nI_toInt (Nat.lt_trans hn (by decide))]
  have h0 : (0 : Int32).toInt = 0 := by decide
  rw [h0]
  omega
theorem popP_or_le {o a : Nat} (n : Nat) : popP (o ||| 2 ^ a) n ≤ popP o n + 1 := by
  cases h : o.testBit a
  · rw [popP_or h n]
    split <;> omega
  · have e : o ||| 2 ^ a = o := by
      apply Nat.eq_of_testBit_eq
      intro i
      rw [Nat.testBit_or, Nat.testBit_two_pow]
      by_cases q : a = i
      · subst q
        rw [h]
        rfl
      · simp [q]
    rw [e]
    omega
theorem mt_pop {Pl : Nat → Nat} {n : Nat} : ∀ i, popP (mtF Pl n i) n ≤ i ∧ ((∃ j, j < i ∧ ¬ (Pl j ≠ 0 ∧ Pl j ≤ n)) → popP (mtF Pl n i) n + 1 ≤ i)
  | 0 => ⟨by rw [show mtF Pl n 0 = 0 from rfl, pop_zero]; exact Nat.le_refl 0, fun ⟨_, h, _⟩ => absurd h (Nat.not_lt_zero _)⟩
  | i + 1 => by
    obtain ⟨h1, h2⟩ := mt_pop (Pl := Pl) (n := n) i
    by_cases h : Pl i ≠ 0 ∧ Pl i ≤ n
    · have e : mtF Pl n (i + 1) = mtF Pl n i ||| 2 ^ (Pl i - 1) := by
        simp only [mtF]
        rw [if_pos h]
      have h3 := popP_or_le (o := mtF Pl n i) (a := Pl i - 1) n
      rw [e]
      refine ⟨by omega, fun ⟨j, hj, hb⟩ => ?_⟩
      rcases Nat.lt_or_ge j i with q | q
      · have := h2 ⟨j, q, hb⟩
        omega
      · rw [show j = i by omega] at hb
        exact absurd h hb
    · rw [mtF_f h]
      exact ⟨by omega, fun _ => by omega⟩
theorem mt_all {Pl : Nat → Nat} {n : Nat} (h : mtF Pl n n = 2 ^ n - 1) : ∀ i, i < n → 0 < Pl i ∧ Pl i ≤ n := fun i hi => by
  apply Classical.byContradiction
  intro q
  have h1 := (mt_pop (Pl := Pl) (n := n) n).2 ⟨i, hi, fun z => q ⟨by omega, z.2⟩⟩
  rw [h, pop_all n (Nat.le_refl n)] at h1
  omega
def orD (n nf : Nat) (Se Li : Nat → Nat) : Nat → Nat := rowF Li (drF Se nf) n
def orL (n nf : Nat) (Se Li Le : Nat → Nat) : Nat → Nat := lwA (rowF Li (drF Se nf) n) Le n (2 ^ n - 1)
def orC (n nf : Nat) (V Se Li Le Ch : Nat → Nat) : Nat → Nat := chA V (rowF Li (drF Se nf) n) Ch n ((lwA (rowF Li (drF Se nf) n) Le n (2 ^ n - 1)) 0) (2 ^ n - 1)
def orO (n nf : Nat) (V Se Li Od Le Ch : Nat → Nat) : Nat → Nat := (ob5 V (rowF Li (drF Se nf) n) (chA V (rowF Li (drF Se nf) n) Ch n ((lwA (rowF Li (drF Se nf) n) Le n (2 ^ n - 1)) 0) (2 ^ n - 1)) Od n ((lwA (rowF Li (drF Se nf) n) Le n (2 ^ n - 1)) 0) n).2
def or5 (n nf : Nat) (V Se Li Od Bg Le Ch : Nat → Nat) : wkT := wkF 1 V (fun i => orO n nf V Se Li Od Le Ch i + 1) n (rowF Li (drF Se nf) n, 0, orO n nf V Se Li Od Le Ch, Bg, 0) n
/-- the order that a kind gives -/
def orZ (n nf : Nat) (V Pl Se Li Od Bg Le Ch : Nat → Nat) (q : Nat) : osT :=
  if q = 5 then ((or5 n nf V Se Li Od Bg Le Ch).1, orO n nf V Se Li Od Le Ch, (or5 n nf V Se Li Od Bg Le Ch).2.2.2.1, 5, (or5 n nf V Se Li Od Bg Le Ch).2.2.2.2, 0)
  else ((wkZ q V Pl Se Li Od Bg n nf).1, (wkZ q V Pl Se Li Od Bg n nf).2.2.1, (wkZ q V Pl Se Li Od Bg n nf).2.2.2.1, q, (wkZ q V Pl Se Li Od Bg n nf).2.2.2.2, 0)
def orOk (n : Nat) (Pl : Nat → Nat) (x : Int32) : Prop := inZ x.toInt64 (lN 0) (lN 5) ∧ (x = nI 1 → mtF Pl n n = 2 ^ n - 1)
abbrev orT : Type := osT × (Nat → Nat) × (Nat → Nat)
def orP (n nf : Nat) (V Pl Se Li Od Bg Le Ch : Nat → Nat) (o : osT) (x : Int32) (u : orT) : Prop :=
  u.1 = zif (orOk n Pl x) (orZ n nf V Pl Se Li Od Bg Le Ch (tn x)) o ∧ oB u.1 ∧ (∀ i, u.2.1 i ≤ 101) ∧ (∀ i, u.2.2 i ≤ 137438953472)
theorem wkC_lt {how : Nat} {V Pl : Nat → Nat} {n i : Nat} {s : wkT} (hn : n ≤ 12) (hi : i < n) (hP : ∀ i, Pl i ≤ 12) : wkC how V Pl n s i < 12 := by
  unfold wkC
  split
  · have := hP i
    omega
  · split
    · have := (pkF_in (co := pkC V s.1 n how) (o := s.2.1) n).1
      omega
    · omega
theorem wkF_B {how : Nat} {V Pl : Nat → Nat} {n : Nat} {s0 : wkT} (hn : n ≤ 12) (hP : ∀ i, Pl i ≤ 12) (h : wkB n s0) : ∀ i, i ≤ n → wkB n (wkF how V Pl n s0 i)
  | 0, _ => h
  | i + 1, hi => wkN_B (wkC_lt hn (by omega) hP) (wkF_B hn hP h i (by omega))
theorem ob5_ge {V L Ch Od : Nat → Nat} {n wd : Nat} : ∀ k i, k ≤ i → (ob5 V L Ch Od n wd k).2 i = Od i
  | 0, _, _ => rfl
  | k + 1, i, h => by
    show va_up _ k _ i = _
    rw [va_up_ne _ _ (by omega)]
    exact ob5_ge k i (by omega)
theorem ch_b {V L Ch : Nat → Nat} {n wd : Nat} (hV : ∀ j, V j ≤ 4) (hn : n ≤ 12) (h : ∀ i, Ch i ≤ 137438953472) : ∀ i, chA V L Ch n wd (2 ^ n - 1) i ≤ 137438953472 := fun i => by
  have h2m : 2 ^ n ≤ 4096 := Nat.pow_le_pow_right (by decide) hn
  rcases Nat.lt_or_ge (2 ^ n - 1) i with q | q
  · rw [chA_f _ _ q]; exact h i
  · refine Nat.le_trans (chA_b hV hn _ (Nat.le_refl _) i (by omega) q) ?_
    omega
theorem orB {n nf q : Nat} {V Pl Se Li Od Bg Le Ch : Nat → Nat} (hn : n ≤ 12) (hS : ∀ i, Se i < 4096) (h1 : ∀ i, Li i < 4096) (h2 : ∀ i, Od i < 12) (h3 : ∀ i, Bg i < 4096) (hP : ∀ i, Pl i ≤ 12) (h5 : q ≠ 5) : oB (orZ n nf V Pl Se Li Od Bg Le Ch q) := by
  obtain ⟨a, b, c⟩ := wkF_B (how := q) (V := V) (Pl := Pl) (s0 := (rowF Li (drF Se nf) n, 0, Od, Bg, 0)) hn hP ⟨drw_lt h1 hS, h2, h3⟩ n (Nat.le_refl n)
  unfold orZ
  rw [if_neg h5]
  exact ⟨a, b, c, Nat.zero_le 1⟩
theorem orB5 {n nf : Nat} {V Pl Se Li Od Bg Le Ch : Nat → Nat} (hn : n ≤ 12) (hS : ∀ i, Se i < 4096) (h1 : ∀ i, Li i < 4096) (h2 : ∀ i, Od i < 12) (h3 : ∀ i, Bg i < 4096) (h4 : ∀ j, j < n → orO n nf V Se Li Od Le Ch j < n) : oB (orZ n nf V Pl Se Li Od Bg Le Ch 5) := by
  have hO : ∀ i, orO n nf V Se Li Od Le Ch i < 12 := fun i => by
    rcases Nat.lt_or_ge i n with q | q
    · have := h4 i q
      omega
    · show (ob5 _ _ _ _ _ _ n).2 i < 12
      rw [ob5_ge n i q]
      exact h2 i
  obtain ⟨a, -, c⟩ := wkF_B (how := 1) (V := V) (Pl := fun i => orO n nf V Se Li Od Le Ch i + 1) (s0 := (rowF Li (drF Se nf) n, 0, orO n nf V Se Li Od Le Ch, Bg, 0)) hn (fun i => hO i) ⟨drw_lt h1 hS, hO, h3⟩ n (Nat.le_refl n)
  exact ⟨a, hO, c, Nat.zero_le 1⟩
