-- LEVEL 2, the graph: what is reached through a set
/-- reached from f through names of I: the least set with f and its neighbours that has the neighbours of each of its names in I -/
def Rp (E : Nat → Nat → Prop) (I : Nat → Prop) (f c : Nat) : Prop := ∀ T : Nat → Prop, T f → (∀ c, E f c → T c) → (∀ b c, T b → I b → E b c → T c) → T c
theorem Rp_self {E : Nat → Nat → Prop} {I : Nat → Prop} {f : Nat} : Rp E I f f := fun _ h _ _ => h
theorem Rp_nb {E : Nat → Nat → Prop} {I : Nat → Prop} {f c : Nat} (h : E f c) : Rp E I f c := fun _ _ h2 _ => h2 c h
theorem Rp_cl {E : Nat → Nat → Prop} {I : Nat → Prop} {f b c : Nat} (hb : Rp E I f b) (hI : I b) (h : E b c) : Rp E I f c := fun T h1 h2 h3 => h3 b c (hb T h1 h2 h3) hI h
theorem Rp_tr {E : Nat → Nat → Prop} {I : Nat → Prop} {f b c : Nat} (hb : Rp E I f b) (hI : I b) (hc : Rp E I b c) : Rp E I f c :=
  hc (Rp E I f) hb (fun _ h => Rp_cl hb hI h) (fun _ _ h1 h2 h3 => Rp_cl h1 h2 h3)
theorem Rp_sym {E : Nat → Nat → Prop} {I : Nat → Prop} (hE : ∀ a b, E a b → E b a) {f c : Nat} (h : Rp E I f c) : Rp E I c f :=
  h (fun c => Rp E I c f) Rp_self (fun _ h => Rp_nb (hE _ _ h)) (fun _ _ h1 h2 h3 => Rp_tr (Rp_nb (hE _ _ h3)) h2 h1)
theorem Rp_mono {E : Nat → Nat → Prop} {I J : Nat → Prop} (hIJ : ∀ b, I b → J b) {f c : Nat} (h : Rp E I f c) : Rp E J f c :=
  h (Rp E J f) Rp_self (fun _ h => Rp_nb h) (fun _ _ h1 h2 h3 => Rp_cl h1 (hIJ _ h2) h3)
theorem Rp_cg {E : Nat → Nat → Prop} {I J : Nat → Prop} (hIJ : ∀ b, I b ↔ J b) {f c : Nat} : Rp E I f c ↔ Rp E J f c := ⟨Rp_mono (fun b => (hIJ b).mp), Rp_mono (fun b => (hIJ b).mpr)⟩
/-- one name more to go through -/
theorem Rp_add {E : Nat → Nat → Prop} {I : Nat → Prop} (hE : ∀ a b, E a b → E b a) {x f c : Nat} : Rp E (fun b => I b ∨ b = x) f c ↔ Rp E I f c ∨ (Rp E I f x ∧ Rp E I x c) := by
  constructor
  · intro h
    refine h (fun c => Rp E I f c ∨ (Rp E I f x ∧ Rp E I x c)) (Or.inl Rp_self) (fun _ h => Or.inl (Rp_nb h)) (fun b c h1 h2 h3 => ?_)
    rcases h1 with h1 | ⟨h1, h4⟩
    · rcases h2 with h2 | rfl
      · exact Or.inl (Rp_cl h1 h2 h3)
      · exact Or.inr ⟨h1, Rp_nb h3⟩
    · rcases h2 with h2 | rfl
      · exact Or.inr ⟨h1, Rp_cl h4 h2 h3⟩
      · exact Or.inr ⟨h1, Rp_nb h3⟩
  · rintro (h | ⟨h1, h2⟩)
    · exact Rp_mono (fun _ h => Or.inl h) h
    · exact Rp_tr (Rp_mono (fun _ h => Or.inl h) h1) (Or.inr rfl) (Rp_mono (fun _ h => Or.inl h) h2)
def nbP (Nb : Nat → Nat) (a c : Nat) : Prop := (Nb a).testBit c = true
def btP (I : Nat) (b : Nat) : Prop := I.testBit b = true
def ucn (p : Nat) : Nat → Nat
  | 0 => 0
  | n + 1 => ucn p n + (if p.testBit n then 0 else 1)
theorem ucn_0 {p : Nat} : ∀ n, ucn p n = 0 → ∀ b, b < n → p.testBit b = true
  | 0, _, b, hb => absurd hb (Nat.not_lt_zero _)
  | n + 1, h, b, hb => by
    simp only [ucn] at h
    by_cases q : b = n
    · subst q
      cases h2 : p.testBit b
      · rw [h2] at h
        simp at h
      · rfl
    · exact ucn_0 n (by omega) b (by omega)
theorem ucn_le {p : Nat} : ∀ n, ucn p n ≤ n
  | 0 => Nat.le_refl 0
  | n + 1 => by
    have := ucn_le (p := p) n
    simp only [ucn]
    split <;> omega
theorem ucn_far {p b : Nat} : ∀ n, n ≤ b → ucn (p ||| 2 ^ b) n = ucn p n
  | 0, _ => rfl
  | n + 1, h => by
    simp only [ucn]
    rw [ucn_far n (by omega), Nat.testBit_or, Nat.testBit_two_pow]
    have : decide (b = n) = false := by simp; omega
    rw [this, Bool.or_false]
theorem ucn_or {p b : Nat} (hb : p.testBit b = false) : ∀ n, b < n → ucn (p ||| 2 ^ b) n + 1 ≤ ucn p n
  | 0, h => absurd h (Nat.not_lt_zero _)
  | n + 1, h => by
    simp only [ucn]
    by_cases q : b = n
    · subst q
      rw [ucn_far b (Nat.le_refl b), hb, Nat.testBit_or, Nat.testBit_two_pow]
      simp
    · have ih := ucn_or hb n (by omega)
      rw [Nat.testBit_or, Nat.testBit_two_pow]
      have : decide (b = n) = false := by simp; omega
      rw [this, Bool.or_false]
      omega
theorem tz_bit : ∀ o, o < 4096 → 0 < o → o.testBit (tz o) = true := by4096 (by decide +kernel)
theorem tb_lt {x n b : Nat} (hx : x < 2 ^ n) (h : x.testBit b = true) : b < n := by
  rcases Nat.lt_or_ge b n with q | q
  · exact q
  · rw [Nat.testBit_lt_two_pow (Nat.lt_of_lt_of_le hx (Nat.pow_le_pow_right (by decide) q))] at h
    exact absurd h (by decide)
theorem tb_or {a b c : Nat} : (a ||| b).testBit c = true ↔ a.testBit c = true ∨ b.testBit c = true := by
  rw [Nat.testBit_or, Bool.or_eq_true]
theorem tb_pw {a c : Nat} : (2 ^ a).testBit c = true ↔ a = c := by
  rw [Nat.testBit_two_pow, decide_eq_true_iff]
theorem tb_sdf {a b c : Nat} : (sdf a b).testBit c = true ↔ a.testBit c = true ∧ b.testBit c = false := by
  rw [sdf_bit]
  cases a.testBit c <;> cases b.testBit c <;> simp
theorem tb_and {a b c : Nat} : (a &&& b).testBit c = true ↔ a.testBit c = true ∧ b.testBit c = true := by
  rw [Nat.testBit_and, Bool.and_eq_true]
theorem rchL_ok {Nb : Nat → Nat} {n I f : Nat} (hn : n ≤ 12) (hN : ∀ i, Nb i < 2 ^ n) : ∀ k seen passed, seen < 2 ^ n → (∀ b, seen.testBit b = true → Rp (nbP Nb) (btP I) f b) → (∀ b, passed.testBit b = true → ∀ c, nbP Nb b c → seen.testBit c = true) → ucn passed n ≤ k →
    (∀ b, (rchL Nb I k seen passed).testBit b = true → Rp (nbP Nb) (btP I) f b) ∧ (∀ b, seen.testBit b = true → (rchL Nb I k seen passed).testBit b = true) ∧ (∀ b c, (rchL Nb I k seen passed).testBit b = true → btP I b → nbP Nb b c → (rchL Nb I k seen passed).testBit c = true)
  | 0, seen, passed, hs, h1, h2, hk => by
    refine ⟨h1, fun _ h => h, fun b c hb hI hc => h2 b ?_ c hc⟩
    exact ucn_0 n (by omega) b (tb_lt hs hb)
  | k + 1, seen, passed, hs, h1, h2, hk => by
    have hs12 : seen < 4096 := Nat.lt_of_lt_of_le hs (Nat.pow_le_pow_right (by decide) hn)
    by_cases h0 : sdf (seen &&& I) passed = 0
    · rw [rchL_0 h0]
      refine ⟨h1, fun _ h => h, fun b c hb hI hc => h2 b ?_ c hc⟩
      cases hp : passed.testBit b
      · have : (sdf (seen &&& I) passed).testBit b = true := tb_sdf.mpr ⟨tb_and.mpr ⟨hb, hI⟩, hp⟩
        rw [h0, Nat.zero_testBit] at this
        exact absurd this (by decide)
      · rfl
    · rw [rchL_s h0]
      have ho : sdf (seen &&& I) passed < 4096 := Nat.lt_of_le_of_lt (sdf_le _ _) (Nat.lt_of_le_of_lt Nat.and_le_left hs12)
      have hz := tz_bit _ ho (Nat.pos_of_ne_zero h0)
      obtain ⟨hz1, hz2⟩ := tb_sdf.mp hz
      obtain ⟨hz3, hz4⟩ := tb_and.mp hz1
      generalize tz (sdf (seen &&& I) passed) = t at *
      have ht : t < n := tb_lt hs hz3
      obtain ⟨a1, a2, a3⟩ := rchL_ok hn hN k (seen ||| Nb t) (passed ||| 2 ^ t) (or_lt2 hs (hN t)) (fun b hb => by
          rcases tb_or.mp hb with q | q
          · exact h1 b q
          · exact Rp_cl (h1 t hz3) hz4 q) (fun b hb c hc => by
          rcases tb_or.mp hb with q | q
          · exact tb_or.mpr (Or.inl (h2 b q c hc))
          · rw [← tb_pw.mp q] at hc
            exact tb_or.mpr (Or.inr hc)) (by
          have := ucn_or hz2 n ht
          omega)
      exact ⟨a1, fun b hb => a2 b (tb_or.mpr (Or.inl hb)), a3⟩
theorem rchF_iff {Nb : Nat → Nat} {n I f c : Nat} (hn : n ≤ 12) (hN : ∀ i, Nb i < 2 ^ n) (hf : f < n) : (rchF Nb n f I).testBit c = true ↔ Rp (nbP Nb) (btP I) f c := by
  obtain ⟨a1, a2, a3⟩ := rchL_ok (I := I) (f := f) hn hN n (Nb f ||| 2 ^ f) 0 (or_lt2 (hN f) (pw_lt2 hf)) (fun b hb => by
      rcases tb_or.mp hb with q | q
      · exact Rp_nb q
      · rw [← tb_pw.mp q]; exact Rp_self) (fun b hb => by rw [Nat.zero_testBit] at hb; exact absurd hb (by decide)) (ucn_le n)
  refine ⟨a1 c, fun h => ?_⟩
  exact h (fun c => (rchF Nb n f I).testBit c = true) (a2 f (tb_or.mpr (Or.inr (tb_pw.mpr rfl)))) (fun c hc => a2 c (tb_or.mpr (Or.inl hc))) (fun b c h1 h2 h3 => a3 b c h1 h2 h3)
theorem bagF_iff {Nb : Nat → Nat} {n gone f c : Nat} (hn : n ≤ 12) (hN : ∀ i, Nb i < 2 ^ n) (hf : f < n) : (bagF Nb n f gone).testBit c = true ↔ Rp (nbP Nb) (btP gone) f c ∧ gone.testBit c = false := by
  unfold bagF
  rw [tb_sdf, rchF_iff hn hN hf]
theorem nat_ext {a b : Nat} (h : ∀ c, a.testBit c = true ↔ b.testBit c = true) : a = b := Nat.eq_of_testBit_eq fun c => by
  have := h c
  cases h1 : a.testBit c <;> cases h2 : b.testBit c <;> simp_all
