-- LEVEL 2, apart
theorem apN_tb {L : Nat → Nat} {S sn d : Nat} : ∀ m, (apN L S sn m).testBit d = true ↔ sn.testBit d = true ∨ ∃ c, c < m ∧ sn.testBit c = true ∧ (L c).testBit d = true ∧ S.testBit d = false
  | 0 => ⟨fun h => Or.inl h, fun h => h.elim id (fun ⟨_, h, _⟩ => absurd h (Nat.not_lt_zero _))⟩
  | m + 1 => by
    have ih := apN_tb (L := L) (S := S) (sn := sn) (d := d) m
    cases hc : sn.testBit m
    · rw [apN_f hc, ih]
      constructor
      · rintro (h | ⟨c, h1, h2⟩)
        · exact Or.inl h
        · exact Or.inr ⟨c, by omega, h2⟩
      · rintro (h | ⟨c, h1, h2⟩)
        · exact Or.inl h
        · by_cases q : c = m
          · rw [q, hc] at h2; exact absurd h2.1 (by decide)
          · exact Or.inr ⟨c, by omega, h2⟩
    · rw [apN_t hc, tb_or, ih, tb_sdf]
      constructor
      · rintro ((h | ⟨c, h1, h2⟩) | h)
        · exact Or.inl h
        · exact Or.inr ⟨c, by omega, h2⟩
        · exact Or.inr ⟨m, Nat.lt_succ_self m, hc, h⟩
      · rintro (h | ⟨c, h1, h2, h3⟩)
        · exact Or.inl (Or.inl h)
        · by_cases q : c = m
          · rw [q] at h3; exact Or.inr h3
          · exact Or.inl (Or.inr ⟨c, by omega, h2, h3⟩)
theorem apX_sub {L : Nat → Nat} {n S : Nat} {P : Nat → Prop} (hc : ∀ c d, c < n → P c → (L c).testBit d = true → S.testBit d = false → P d) : ∀ k sn, (∀ c, sn.testBit c = true → P c) → ∀ c, (apX L n S k sn).testBit c = true → P c
  | 0, _, h => h
  | k + 1, sn, h => by
    by_cases q : apN L S sn n = sn
    · rw [apX_e q]; exact h
    · rw [apX_n q]
      refine apX_sub hc k _ (fun c hcb => ?_)
      rcases (apN_tb n).mp hcb with z | ⟨d, h1, h2, h3, h4⟩
      · exact h c z
      · exact hc d c h1 (h d h2) h3 h4
theorem apX_ge {L : Nat → Nat} {n S : Nat} : ∀ k sn c, sn.testBit c = true → (apX L n S k sn).testBit c = true
  | 0, _, _, h => h
  | k + 1, sn, c, h => by
    by_cases q : apN L S sn n = sn
    · rw [apX_e q]; exact h
    · rw [apX_n q]
      exact apX_ge k _ c ((apN_tb n).mpr (Or.inl h))
theorem apX_fix {L : Nat → Nat} {n S : Nat} (hL : ∀ i, L i < 4096) : ∀ k sn, sn < 4096 → 4096 ≤ k + sn → apN L S (apX L n S k sn) n = apX L n S k sn
  | 0, sn, h1, h2 => by omega
  | k + 1, sn, h1, h2 => by
    by_cases q : apN L S sn n = sn
    · rw [apX_e q]; exact q
    · rw [apX_n q]
      have g := apN_ge (L := L) (S := S) (sn := sn) n
      exact apX_fix hL k _ (apN_lt hL h1 n) (by omega)
theorem ap_eq {Nb L : Nat → Nat} {n S a b : Nat} (hG : grOk Nb n) (hL : ∀ i, L i < 4096) (h : ∀ c, c < n → L c = Nb c) (hS : S < 2 ^ n) (ha : a < n) (hb : b < n) (hbS : S.testBit b = false) (haS : S.testBit a = false) :
    (rchF Nb n a (S ^^^ 4294967295)).testBit b = true ↔ (apX L n S 4096 (2 ^ a)).testBit b = true := by
  have hI : ∀ c, c < n → ((S ^^^ 4294967295).testBit c = true ↔ S.testBit c = false) := fun c hc => by
    have hn := hG.1
    have h1 : (4294967295 : Nat).testBit c = true := by
      rw [show (4294967295 : Nat) = 2 ^ 32 - 1 by decide, Nat.testBit_two_pow_sub_one]
      simp
      omega
    rw [Nat.testBit_xor, h1]
    cases S.testBit c <;> decide
  have pa : (2 ^ a).testBit a = true := tb_pw.mpr rfl
  rw [rchF_iff hG.1 hG.2.1 ha]
  constructor
  · intro hr
    have fx := apX_fix (n := n) (S := S) hL 4096 (2 ^ a) (pw_lt (by have := hG.1; omega)) (Nat.le_add_right _ _)
    have ina : (apX L n S 4096 (2 ^ a)).testBit a = true := apX_ge 4096 _ a pa
    have cl : ∀ c d, c < n → (apX L n S 4096 (2 ^ a)).testBit c = true → (Nb c).testBit d = true → (apX L n S 4096 (2 ^ a)).testBit d = true ∨ S.testBit d = true := fun c d hc h1 h2 => by
      cases q : S.testBit d
      · left
        rw [← fx]
        exact (apN_tb n).mpr (Or.inr ⟨c, hc, h1, by rw [h c hc]; exact h2, q⟩)
      · exact Or.inr rfl
    have := hr (fun c => c < n ∧ ((apX L n S 4096 (2 ^ a)).testBit c = true ∨ S.testBit c = true)) ⟨ha, Or.inl ina⟩ (fun c hc => ⟨tb_lt (hG.2.1 a) hc, cl a c ha ina hc⟩) (fun c d h1 h2 h3 => ⟨tb_lt (hG.2.1 c) h3, by
      rcases h1.2 with q | q
      · exact cl c d h1.1 q h3
      · have h4 := (hI c h1.1).mp h2
        rw [q] at h4
        exact absurd h4 (by decide)⟩)
    rcases this.2 with q | q
    · exact q
    · rw [hbS] at q; exact absurd q (by decide)
  · intro hx
    have := apX_sub (L := L) (n := n) (S := S) (P := fun c => c < n ∧ S.testBit c = false ∧ Rp (nbP Nb) (btP (S ^^^ 4294967295)) a c) (fun c d hc h1 h2 h3 => by
      rw [h c hc] at h2
      exact ⟨tb_lt (hG.2.1 c) h2, h3, Rp_cl h1.2.2 ((hI c hc).mpr h1.2.1) h2⟩) 4096 (2 ^ a) (fun c hc => by
      rw [← tb_pw.mp hc]
      exact ⟨ha, haS, Rp_self⟩) b hx
    exact this.2.2
theorem ends_0 {S a b : Nat} : (2 ^ a ||| 2 ^ b) &&& S ≠ 0 ↔ S.testBit a = true ∨ S.testBit b = true := by
  constructor
  · intro h
    apply Classical.byContradiction
    intro q
    apply h
    apply Nat.eq_of_testBit_eq
    intro i
    rw [Nat.testBit_and, Nat.testBit_or, Nat.testBit_two_pow, Nat.testBit_two_pow, Nat.zero_testBit]
    by_cases h1 : a = i
    · subst h1
      cases z : S.testBit a
      · simp
      · exact absurd (Or.inl z) q
    · by_cases h2 : b = i
      · subst h2
        cases z : S.testBit b
        · simp
        · exact absurd (Or.inr z) q
      · simp [h1, h2]
  · intro h z
    rcases h with h | h
    · have : ((2 ^ a ||| 2 ^ b) &&& S).testBit a = true := by
        rw [Nat.testBit_and, Nat.testBit_or, Nat.testBit_two_pow, h]
        simp
      rw [z, Nat.zero_testBit] at this
      exact absurd this (by decide)
    · have : ((2 ^ a ||| 2 ^ b) &&& S).testBit b = true := by
        rw [Nat.testBit_and, Nat.testBit_or, Nat.testBit_two_pow, Nat.testBit_two_pow, h]
        simp
      rw [z, Nat.zero_testBit] at this
      exact absurd this (by decide)
